/-! the class: addRoom -/
theorem m_okR_st (fl x y w h u : Int32) : m_okR fl x y w h u = (m_isIn fl 0 2 && (m_isIn u 0 3 && (m_isIn x 0 60 && (m_isIn y 0 60 && (m_isIn w 1 30 && m_isIn h 1 30))))) := by
  unfold m_okR
  cases m_isIn fl 0 2 <;> cases m_isIn u 0 3 <;> cases m_isIn x 0 60 <;> cases m_isIn y 0 60 <;> cases m_isIn w 1 30 <;> cases m_isIn h 1 30 <;> rfl
section XRS
variable {E : zk_E} {sz : Nat} {J N J1 N1 : Nat → Nat → Int32} {Q : Nat → Nat → Option Nat} {O : zk_Hp} {U : Nat → Int64} {fl : Nat → Int32}
theorem XR.addR (h : XR E sz (J1, N1, Q, O, U) J N fl) (hmi : MI J N) (hn : m_nr J < 20) {a : Nat} (ha : OKA E sz a) {f x y w hh u : Int32} (hf : ¬ f = -2) (hO : O a = some (cR (nI (m_nr J)) f x y w hh u 0)) {J2 : Nat → Nat → Int32} (e5 : J2 1 5 = J1 1 5 + 1) (e6 : J2 1 6 = J1 1 6) (e7 : J2 1 7 = J1 1 7) (e8 : J2 1 8 = J1 1 8) : XR E sz (J2, N1, zk_un Q 2 (va_up (Q 2) (m_nr J) (some a)), O, U) (uJ_room J) (uN_room N (m_nr J) f x y w hh u) fl := by
  have hnr := hmi.1.1.1
  have em : m_nr (uJ_room J) = m_nr J + 1 := by
    have : m_nr (uJ_room J) = (J 22 1 + 1).toNatClampNeg := rfl
    rw [this, hnr, n_succ, n_cl (by omega)]
  obtain ⟨⟨a1, a2, a3, a4, a5⟩, hB, hC, hD, hT, hG⟩ := h
  have hB : XB E sz Q O J N := hB
  have hC : XC E sz Q O J N fl := hC
  have hD : XD E sz Q O J N := hD
  have hT : XT E sz Q O J N := hT
  generalize eN : uN_room N (m_nr J) f x y w hh u = N2
  have n23 : N2 23 = upd (N 23) (m_nr J) f := by rw [← eN]; rfl
  have n24 : N2 24 = upd (N 24) (m_nr J) x := by rw [← eN]; rfl
  have n25 : N2 25 = upd (N 25) (m_nr J) y := by rw [← eN]; rfl
  have n26 : N2 26 = upd (N 26) (m_nr J) w := by rw [← eN]; rfl
  have n27 : N2 27 = upd (N 27) (m_nr J) hh := by rw [← eN]; rfl
  have n28 : N2 28 = upd (N 28) (m_nr J) u := by rw [← eN]; rfl
  have n29 : N2 29 = upd (N 29) (m_nr J) 0 := by rw [← eN]; rfl
  have nn : ∀ o, 30 ≤ o → N2 o = N o := fun o ho => by
    rw [← eN]
    unfold uN_room zk_un
    rw [if_neg (by omega), if_neg (by omega), if_neg (by omega), if_neg (by omega), if_neg (by omega), if_neg (by omega), if_neg (by omega)]
  clear eN
  generalize eQ : zk_un Q 2 (va_up (Q 2) (m_nr J) (some a)) = Q2
  have q2 : Q2 2 = va_up (Q 2) (m_nr J) (some a) := by rw [← eQ]; rfl
  have qq : ∀ o, o ≠ 2 → Q2 o = Q o := fun o ho => by rw [← eQ]; unfold zk_un; rw [if_neg ho]
  clear eQ
  have rqk : ∀ z, (z = -1 ∨ ∃ k, MR J N k ∧ z = nI k) → rq Q2 z = rq Q z := fun z hz => by
    unfold rq
    rcases hz with rfl | ⟨k, hk, rfl⟩
    · rw [if_pos rfl, if_pos rfl]
    · have k20 := hk.lt hmi
      have kn := hk.1
      rw [if_neg (nI_ne1 (by omega)), if_neg (nI_ne1 (by omega)), n_cl (by omega), q2, vaup_ne _ _ (by omega)]
  have n23k : ∀ z, (∃ k, MR J N k ∧ z = nI k) → N2 23 z.toNatClampNeg = N 23 z.toNatClampNeg := fun z hz => by
    obtain ⟨k, hk, rfl⟩ := hz
    have k20 := hk.lt hmi
    have kn := hk.1
    rw [n_cl (by omega), n23, upd_ne _ _ (by omega)]
  refine ⟨⟨?_, ?_, ?_, ?_, ?_⟩, ?_, ?_, ?_, ?_, ?_⟩
  · show J2 1 5 = J 22 1 + 1; rw [e5, show J1 1 5 = J 22 1 from a1]
  · show J2 1 6 = J 22 9; rw [e6]; exact a2
  · show J2 1 7 = J 22 17; rw [e7]; exact a3
  · show J2 1 8 = J 22 23; rw [e8]; exact a4
  · intro i hi; rw [nn 46 (by decide)]; exact a5 i hi
  · intro r hr
    show (∃ a', MR (uJ_room J) N2 r ∧ Q2 2 r = some a' ∧ OKA E sz a' ∧ O a' = some (xrm N2 r)) ∨ (¬ MR (uJ_room J) N2 r ∧ Q2 2 r = none)
    by_cases w : r = m_nr J
    · subst w
      refine Or.inl ⟨a, ⟨by rw [em]; omega, by rw [n23, upd_self]; exact hf⟩, by rw [q2, vaup_self], ha, hO.trans ?_⟩
      unfold xrm
      rw [n23, n24, n25, n26, n27, n28, n29, upd_self, upd_self, upd_self, upd_self, upd_self, upd_self, upd_self]
    · have em2 : MR (uJ_room J) N2 r = MR J N r := by
        unfold MR
        rw [em, n23, upd_ne _ _ w]
        apply propext
        constructor
        · rintro ⟨z1, z2⟩; exact ⟨by omega, z2⟩
        · rintro ⟨z1, z2⟩; exact ⟨by omega, z2⟩
      rw [em2, q2, vaup_ne _ _ w]
      rcases hB r hr with ⟨a', b1, b2, b3, b4⟩ | w2
      · refine Or.inl ⟨a', b1, b2, b3, b4.trans ?_⟩
        unfold xrm
        rw [n23, n24, n25, n26, n27, n28, n29, upd_ne _ _ w, upd_ne _ _ w, upd_ne _ _ w, upd_ne _ _ w, upd_ne _ _ w, upd_ne _ _ w, upd_ne _ _ w]
      · exact Or.inr w2
  · intro d hd
    show (∃ a p, MD (uJ_room J) N2 d ∧ Q2 3 d = some a ∧ OKA E sz a ∧ OKA E sz p ∧ O a = some (xdr N2 Q2 fl d p) ∧ O p = some (xdp N2 d)) ∨ (¬ MD (uJ_room J) N2 d ∧ Q2 3 d = none)
    have em2 : MD (uJ_room J) N2 d = MD J N d := by unfold MD; rw [nn 30 (by decide)]; rfl
    rw [em2, qq 3 (by decide)]
    rcases hC d hd with ⟨a, p, b1, b2, b3, b4, b5, b6⟩ | w2
    · have hX : MX J N d := Or.inl ⟨hd, b1⟩
      obtain ⟨r, r1, r2, r3⟩ := ends_e hmi hX
      have e1 : ef N d = N 30 d := by unfold ef; rw [if_pos hd]
      have e2 : et N d = N 31 d := by unfold et; rw [if_pos hd]
      rw [e1] at r2
      rw [e2] at r3
      refine Or.inl ⟨a, p, b1, b2, b3, b4, b5.trans ?_, b6.trans ?_⟩
      · unfold xdr m_px m_py
        rw [nn 30 (by decide), nn 31 (by decide), nn 32 (by decide), nn 33 (by decide), nn 34 (by decide), nn 35 (by decide), nn 36 (by decide), nn 44 (by decide), nn 45 (by decide), rqk _ (Or.inr ⟨r, r1, r2⟩), rqk _ (r3.imp id (fun ⟨q, a1, a2, a3⟩ => ⟨q, a1, a3⟩))]
      · unfold xdp
        rw [nn 30 (by decide), n23k _ ⟨r, r1, r2⟩, nn 32 (by decide), nn 33 (by decide), nn 34 (by decide), nn 35 (by decide)]
    · exact Or.inr w2
  · intro d hd
    show (∃ a p c, MW (uJ_room J) N2 d ∧ Q2 4 d = some a ∧ OKA E sz a ∧ OKA E sz p ∧ Q2 2 (N2 37 d).toNatClampNeg = some c ∧ O a = some (cW c p) ∧ O p = some (xwp N2 d)) ∨ (¬ MW (uJ_room J) N2 d ∧ Q2 4 d = none)
    have em2 : MW (uJ_room J) N2 d = MW J N d := by unfold MW; rw [nn 37 (by decide)]; rfl
    rw [em2, qq 4 (by decide)]
    rcases hD d hd with ⟨a, p, c, b1, b2, b3, b4, b5, b6, b7⟩ | w2
    · rcases (hmi.2.2.2.1 d b1.1).1 with w | ⟨r, r1, r2⟩
      · exact absurd w b1.2
      have r20 := r1.lt hmi
      have rn := r1.1
      refine Or.inl ⟨a, p, c, b1, b2, b3, b4, ?_, b6, b7.trans ?_⟩
      · have b5 : Q 2 (N 37 d).toNatClampNeg = some c := b5
        rw [nn 37 (by decide), q2]
        rw [r2, n_cl (by omega)] at b5 ⊢
        rw [vaup_ne _ _ (by omega)]
        exact b5
      · unfold xwp
        rw [nn 37 (by decide), n23k _ ⟨r, r1, r2⟩, nn 38 (by decide), nn 39 (by decide), nn 40 (by decide), nn 41 (by decide)]
    · exact Or.inr w2
  · intro d hd
    show (∃ a, MT (uJ_room J) N2 d ∧ Q2 5 d = some a ∧ OKA E sz a ∧ O a = some (xst N2 Q2 d)) ∨ (¬ MT (uJ_room J) N2 d ∧ Q2 5 d = none)
    have em2 : MT (uJ_room J) N2 d = MT J N d := by unfold MT; rw [nn 42 (by decide)]; rfl
    rw [em2, qq 5 (by decide)]
    rcases hT d hd with ⟨a, b1, b2, b3, b4⟩ | w2
    · rcases (hmi.2.2.2.2.1 d b1.1).1 with w | ⟨r, r1, r2, q, qq2, -, q3⟩
      · exact absurd w b1.2
      refine Or.inl ⟨a, b1, b2, b3, b4.trans ?_⟩
      unfold xst
      rw [nn 42 (by decide), nn 43 (by decide), nn 44 (by decide), nn 45 (by decide), rqk _ (Or.inr ⟨r, r1, r2⟩), rqk _ (Or.inr ⟨q, qq2, q3⟩)]
    · exact Or.inr w2
  · intro d d2 a hd hd2 e1 e2
    have e1 : Q2 3 d = some a := e1
    have e2 : Q2 3 d2 = some a := e2
    rw [qq 3 (by decide)] at e1 e2
    exact hG d d2 a hd hd2 e1 e2
end XRS

