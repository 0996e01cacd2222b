/-! the class: addWindow -/
section XRS
variable {E : zk_E} {sz : Nat} {J N J1 N1 : Nat → Nat → Int32} {Q : Nat → Nat → Option Nat} {O : zk_Hp} {U : zk_U} {fl : Nat → Int32}
theorem XR.addW (h : XR E sz (J1, N1, Q, O, U) J N fl) (hmi : MI J N) (hn : m_nw J < 40) {a p j b : Nat} (hj : MR J N j) (hb : Q 2 j = some b) (ha : OKA E sz a) (hp : OKA E sz p) {x y up w : Int32} (hO : O a = some (cW b p)) (hOp : O p = some (cP (N 23 j) up (p_line up x y) (p_start up x y) w)) {J2 : Nat → Nat → Int32} (e5 : J2 1 5 = J1 1 5) (e6 : J2 1 6 = J1 1 6) (e7 : J2 1 7 = J1 1 7 + 1) (e8 : J2 1 8 = J1 1 8) : XR E sz (J2, N1, zk_un Q 4 (va_up (Q 4) (m_nw J) (some a)), O, U) (uJ_win J) (uN_win N (m_nw J) (nI j) x y up w) fl := by
  have hj20 := hj.lt hmi
  have hnw := hmi.1.2.2.1.1
  have em : m_nw (uJ_win J) = m_nw J + 1 := by
    have : m_nw (uJ_win J) = (J 22 17 + 1).toNatClampNeg := rfl
    rw [this, hnw, n_succ, n_cl (by omega)]
  obtain ⟨⟨a1, a2, a3, a4, a5⟩, hB, hC, hD, hT, hG⟩ := h
  have hD : XD E sz Q O J N := hD
  refine ⟨⟨?_, ?_, ?_, ?_, a5⟩, hB, hC, ?_, hT, hG⟩
  · show J2 1 5 = J 22 1; rw [e5]; exact a1
  · show J2 1 6 = J 22 9; rw [e6]; exact a2
  · show J2 1 7 = J 22 17 + 1; rw [e7, show J1 1 7 = J 22 17 from a3]
  · show J2 1 8 = J 22 23; rw [e8]; exact a4
  · intro d hd
    generalize eN : uN_win N (m_nw J) (nI j) x y up w = N2
    have n23 : N2 23 = N 23 := by rw [← eN]; rfl
    have n37 : N2 37 = upd (N 37) (m_nw J) (nI j) := by rw [← eN]; rfl
    have n38 : N2 38 = upd (N 38) (m_nw J) x := by rw [← eN]; rfl
    have n39 : N2 39 = upd (N 39) (m_nw J) y := by rw [← eN]; rfl
    have n40 : N2 40 = upd (N 40) (m_nw J) w := by rw [← eN]; rfl
    have n41 : N2 41 = upd (N 41) (m_nw J) up := by rw [← eN]; rfl
    show (∃ a' p c, MW (uJ_win J) N2 d ∧ va_up (Q 4) (m_nw J) (some a) d = some a' ∧ OKA E sz a' ∧ OKA E sz p ∧ Q 2 (N2 37 d).toNatClampNeg = some c ∧ O a' = some (cW c p) ∧ O p = some (xwp N2 d)) ∨ (¬ MW (uJ_win J) N2 d ∧ va_up (Q 4) (m_nw J) (some a) d = none)
    by_cases z : d = m_nw J
    · subst z
      refine Or.inl ⟨a, p, b, ⟨by rw [em]; omega, by rw [n37, upd_self]; exact nI_ne2 (by omega)⟩, vaup_self _ _ _, ha, hp, by rw [n37, upd_self, n_cl (by omega)]; exact hb, hO, hOp.trans ?_⟩
      unfold xwp
      rw [n23, n37, n38, n39, n40, n41, upd_self, upd_self, upd_self, upd_self, upd_self, n_cl (by omega)]
    · have em2 : MW (uJ_win J) N2 d = MW J N d := by
        unfold MW
        rw [em, n37, upd_ne _ _ z]
        apply propext
        constructor
        · rintro ⟨z1, z2⟩; exact ⟨by omega, z2⟩
        · rintro ⟨z1, z2⟩; exact ⟨by omega, z2⟩
      rw [em2, vaup_ne _ _ z]
      rcases hD d hd with ⟨a', p, c, b1, b2, b3, b4, b5, b6, b7⟩ | w2
      · refine Or.inl ⟨a', p, c, b1, b2, b3, b4, by rw [n37, upd_ne _ _ z]; exact b5, b6, b7.trans ?_⟩
        unfold xwp
        rw [n23, n37, n38, n39, n40, n41, upd_ne _ _ z, upd_ne _ _ z, upd_ne _ _ z, upd_ne _ _ z, upd_ne _ _ z]
      · exact Or.inr w2
end XRS

