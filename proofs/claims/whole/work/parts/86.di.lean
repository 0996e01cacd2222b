/-! the class: addDoor -/
section XRS
variable {E : zk_E} {sz : Nat} {J N J1 N1 : Nat → Nat → Int32} {Q : Nat → Nat → Option Nat} {O : zk_Hp} {U : Nat → Int64}
theorem XR.addD (h : XR E sz (J1, N1, Q, O, U) J N (fl0 N)) (hmi : MI J N) (hn : m_nd J < 40) {a p j : Nat} {o x y up w : Int32} {oo : Option Nat} (hj : MR J N j) (ho : o = -1 ∨ ∃ k, MR J N k ∧ o = nI k) (hoo : rq Q o = oo) (hup : up = 0 ∨ up = 1) (ha : OKA E sz a) (hp : OKA E sz p) (hfr : ∀ d, d < 40 → Q 3 d ≠ some a)
    (hO : O a = some (cX 1 (Q 2 j) oo (p_mx (some (cP (N 23 j) up (p_line up x y) (p_start up x y) w))) (p_my (some (cP (N 23 j) up (p_line up x y) (p_start up x y) w))) 0 (w * 2) 0 [.ref p])) (hOp : O p = some (cP (N 23 j) up (p_line up x y) (p_start up x y) w)) {J2 : Nat → Nat → Int32} (e5 : J2 1 5 = J1 1 5) (e6 : J2 1 6 = J1 1 6 + 1) (e7 : J2 1 7 = J1 1 7) (e8 : J2 1 8 = J1 1 8) : XR E sz (J2, N1, zk_un Q 3 (va_up (Q 3) (m_nd J) (some a)), O, U) (uJ_door J) (uN_door N (m_nd J) (nI j) o x y up w) (fl0 (uN_door N (m_nd J) (nI j) o x y up w)) := by
  have hj20 := hj.lt hmi
  have hnd := hmi.1.2.1.1
  have h36 := hmi.2.2.2.2.2.2 (m_nd J) (Nat.le_refl _) hn
  have em : m_nd (uJ_door J) = m_nd J + 1 := by
    have : m_nd (uJ_door J) = (J 22 9 + 1).toNatClampNeg := rfl
    rw [this, hnd, n_succ, n_cl (by omega)]
  obtain ⟨⟨a1, a2, a3, a4, a5⟩, hB, hC, hD, hT, hG⟩ := h
  have hC : XC E sz Q O J N (fl0 N) := hC
  have hG : XG Q := hG
  refine ⟨⟨?_, ?_, ?_, ?_, a5⟩, hB, ?_, hD, hT, ?_⟩
  · show J2 1 5 = J 22 1; rw [e5]; exact a1
  · show J2 1 6 = J 22 9 + 1; rw [e6, show J1 1 6 = J 22 9 from a2]
  · show J2 1 7 = J 22 17; rw [e7]; exact a3
  · show J2 1 8 = J 22 23; rw [e8]; exact a4
  · intro d hd
    generalize eN : uN_door N (m_nd J) (nI j) o x y up w = N2
    have n23 : N2 23 = N 23 := by rw [← eN]; rfl
    have n30 : N2 30 = upd (N 30) (m_nd J) (nI j) := by rw [← eN]; rfl
    have n31 : N2 31 = upd (N 31) (m_nd J) o := by rw [← eN]; rfl
    have n32 : N2 32 = upd (N 32) (m_nd J) x := by rw [← eN]; rfl
    have n33 : N2 33 = upd (N 33) (m_nd J) y := by rw [← eN]; rfl
    have n34 : N2 34 = upd (N 34) (m_nd J) w := by rw [← eN]; rfl
    have n35 : N2 35 = upd (N 35) (m_nd J) up := by rw [← eN]; rfl
    have n36 : N2 36 = N 36 := by rw [← eN]; rfl
    clear eN
    have rqs : ∀ z, rq (zk_un Q 3 (va_up (Q 3) (m_nd J) (some a))) z = rq Q z := fun z => rfl
    show (∃ a' p, MD (uJ_door J) N2 d ∧ va_up (Q 3) (m_nd J) (some a) d = some a' ∧ OKA E sz a' ∧ OKA E sz p ∧ O a' = some (xdr N2 (zk_un Q 3 (va_up (Q 3) (m_nd J) (some a))) (fl0 N2) d p) ∧ O p = some (xdp N2 d)) ∨ (¬ MD (uJ_door J) N2 d ∧ va_up (Q 3) (m_nd J) (some a) d = none)
    by_cases z : d = m_nd J
    · subst z
      refine Or.inl ⟨a, p, ⟨by rw [em]; omega, by rw [n30, upd_self]; exact nI_ne2 (by omega)⟩, vaup_self _ _ _, ha, hp, hO.trans ?_, hOp.trans ?_⟩
      · have rj : rq Q (nI j) = Q 2 j := by
          unfold rq
          rw [if_neg (nI_ne1 (by omega)), n_cl (by omega)]
        unfold xdr m_px m_py fl0
        rw [(d2e (m_nd J)).1]
        simp only [if_pos hd]
        rw [rqs, rqs, n30, n31, n32, n33, n34, n35, n36, upd_self, upd_self, upd_self, upd_self, upd_self, upd_self, rj, hoo, h36]
        unfold p_mx p_my
        simp only [fI_P]
        unfold p_line p_start
        rcases hup with rfl | rfl
        · simp
        · have n10 : ¬ (1 : Int32) = 0 := by decide
          simp [n10]
      · unfold xdp
        rw [n23, n30, n32, n33, n34, n35, upd_self, upd_self, upd_self, upd_self, upd_self, n_cl (by omega)]
    · have em2 : MD (uJ_door J) N2 d = MD J N d := by
        unfold MD
        rw [em, n30, upd_ne _ _ z]
        apply propext
        constructor
        · rintro ⟨z1, z2⟩; exact ⟨by omega, z2⟩
        · rintro ⟨z1, z2⟩; exact ⟨by omega, z2⟩
      rw [em2, vaup_ne _ _ z]
      rcases hC d hd with ⟨a', p, b1, b2, b3, b4, b5, b6⟩ | w2
      · refine Or.inl ⟨a', p, b1, b2, b3, b4, b5.trans ?_, b6.trans ?_⟩
        · unfold xdr m_px m_py fl0
          rw [(d2e d).1]
          simp only [if_pos hd]
          rw [rqs, rqs, n30, n31, n32, n33, n34, n35, n36, upd_ne _ _ z, upd_ne _ _ z, upd_ne _ _ z, upd_ne _ _ z, upd_ne _ _ z, upd_ne _ _ z]
        · unfold xdp
          rw [n23, n30, n32, n33, n34, n35, upd_ne _ _ z, upd_ne _ _ z, upd_ne _ _ z, upd_ne _ _ z, upd_ne _ _ z]
      · exact Or.inr w2
  · intro d d2 a' hd hd2 q1 q2
    have q1 : va_up (Q 3) (m_nd J) (some a) d = some a' := q1
    have q2 : va_up (Q 3) (m_nd J) (some a) d2 = some a' := q2
    by_cases z : d = m_nd J
    · by_cases z2 : d2 = m_nd J
      · rw [z, z2]
      · rw [z, vaup_self] at q1
        rw [vaup_ne _ _ z2] at q2
        cases q1
        exact absurd q2 (hfr d2 hd2)
    · rw [vaup_ne _ _ z] at q1
      by_cases z2 : d2 = m_nd J
      · rw [z2, vaup_self] at q2
        cases q2
        exact absurd q1 (hfr d hd)
      · rw [vaup_ne _ _ z2] at q2
        exact hG d d2 a' hd hd2 q1 q2
end XRS

