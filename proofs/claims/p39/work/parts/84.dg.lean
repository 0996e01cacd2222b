/-! the class: addRoom -/
theorem m_okR_st (fl x y w h u : Int32) : m_okR fl x y w h u = (m_isIn fl 0 2 && (m_isIn u 0 3 && (m_isIn x 0 60 && (m_isIn y 0 60 && (m_isIn w 1 30 && m_isIn h 1 30))))) := by
  unfold m_okR
  cases m_isIn fl 0 2 <;> cases m_isIn u 0 3 <;> cases m_isIn x 0 60 <;> cases m_isIn y 0 60 <;> cases m_isIn w 1 30 <;> cases m_isIn h 1 30 <;> rfl
section XRS
variable {E : zk_E} {sz : Nat} {J N J1 N1 : Nat → Nat → Int32} {Q : Nat → Nat → Option Nat} {O : zk_Hp} {U : zk_U} {fl : Nat → Int32}
theorem XR.addR (h : XR E sz (J1, N1, Q, O, U) J N fl) (hmi : MI J N) (hn : m_nr J < 20) {a : Nat} (ha : OKA E sz a) {f x y w hh u : Int32} (hf : ¬ f = -2) (hO : O a = some (cR (nI (m_nr J)) f x y w hh u 0)) {J2 : Nat → Nat → Int32} (e5 : J2 1 5 = J1 1 5 + 1) (e6 : J2 1 6 = J1 1 6) (e7 : J2 1 7 = J1 1 7) (e8 : J2 1 8 = J1 1 8) : XR E sz (J2, N1, zk_un Q 2 (va_up (Q 2) (m_nr J) (some a)), O, U) (uJ_room J) (uN_room N (m_nr J) f x y w hh u) fl := by
  have hnr := hmi.1.1.1
  have em : m_nr (uJ_room J) = m_nr J + 1 := by
    have : m_nr (uJ_room J) = (J 22 1 + 1).toNatClampNeg := rfl
    rw [this, hnr, n_succ, n_cl (by omega)]
  obtain ⟨⟨a1, a2, a3, a4, a5⟩, hB, hC, hD, hT, hG⟩ := h
  have hB : XB E sz Q O J N := hB
  have hC : XC E sz Q O J N fl := hC
  have hD : XD E sz Q O J N := hD
  have hT : XT E sz Q O J N := hT
  generalize eN : uN_room N (m_nr J) f x y w hh u = N2
  have n23 : N2 23 = upd (N 23) (m_nr J) f := by rw [← eN]; rfl
  have n24 : N2 24 = upd (N 24) (m_nr J) x := by rw [← eN]; rfl
  have n25 : N2 25 = upd (N 25) (m_nr J) y := by rw [← eN]; rfl
  have n26 : N2 26 = upd (N 26) (m_nr J) w := by rw [← eN]; rfl
  have n27 : N2 27 = upd (N 27) (m_nr J) hh := by rw [← eN]; rfl
  have n28 : N2 28 = upd (N 28) (m_nr J) u := by rw [← eN]; rfl
  have n29 : N2 29 = upd (N 29) (m_nr J) 0 := by rw [← eN]; rfl
  have nn : ∀ o, 30 ≤ o → N2 o = N o := fun o ho => by
    rw [← eN]
    unfold uN_room zk_un
    rw [if_neg (by omega), if_neg (by omega), if_neg (by omega), if_neg (by omega), if_neg (by omega), if_neg (by omega), if_neg (by omega)]
  clear eN
  generalize eQ : zk_un Q 2 (va_up (Q 2) (m_nr J) (some a)) = Q2
  have q2 : Q2 2 = va_up (Q 2) (m_nr J) (some a) := by rw [← eQ]; rfl
  have qq : ∀ o, o ≠ 2 → Q2 o = Q o := fun o ho => by rw [← eQ]; unfold zk_un; rw [if_neg ho]
  clear eQ
  have rqk : ∀ z, (z = -1 ∨ ∃ k, MR J N k ∧ z = nI k) → rq Q2 z = rq Q z := fun z hz => by
    unfold rq
    rcases hz with rfl | ⟨k, hk, rfl⟩
    · rw [if_pos rfl, if_pos rfl]
    · have k20 := hk.lt hmi
      have kn := hk.1
      rw [if_neg (nI_ne1 (by omega)), if_neg (nI_ne1 (by omega)), n_cl (by omega), q2, vaup_ne _ _ (by omega)]
  have n23k : ∀ z, (∃ k, MR J N k ∧ z = nI k) → N2 23 z.toNatClampNeg = N 23 z.toNatClampNeg := fun z hz => by
    obtain ⟨k, hk, rfl⟩ := hz
    have k20 := hk.lt hmi
    have kn := hk.1
    rw [n_cl (by omega), n23, upd_ne _ _ (by omega)]
  refine ⟨⟨?_, ?_, ?_, ?_, ?_⟩, ?_, ?_, ?_, ?_, ?_⟩
  · show J2 1 5 = J 22 1 + 1; rw [e5, show J1 1 5 = J 22 1 from a1]
  · show J2 1 6 = J 22 9; rw [e6]; exact a2
  · show J2 1 7 = J 22 17; rw [e7]; exact a3
  · show J2 1 8 = J 22 23; rw [e8]; exact a4
  · intro i hi; rw [nn 46 (by decide)]; exact a5 i hi
  · intro r hr
    show (∃ a', MR (uJ_room J) N2 r ∧ Q2 2 r = some a' ∧ OKA E sz a' ∧ O a' = some (xrm N2 r)) ∨ (¬ MR (uJ_room J) N2 r ∧ Q2 2 r = none)
    by_cases w : r = m_nr J
    · subst w
      refine Or.inl ⟨a, ⟨by rw [em]; omega, by rw [n23, upd_self]; exact hf⟩, by rw [q2, vaup_self], ha, hO.trans ?_⟩
      unfold xrm
      rw [n23, n24, n25, n26, n27, n28, n29, upd_self, upd_self, upd_self, upd_self, upd_self, upd_self, upd_self]
    · have em2 : MR (uJ_room J) N2 r = MR J N r := by
        unfold MR
        rw [em, n23, upd_ne _ _ w]
        apply propext
        constructor
        · rintro ⟨z1, z2⟩; exact ⟨by omega, z2⟩
        · rintro ⟨z1, z2⟩; exact ⟨by omega, z2⟩
      rw [em2, q2, vaup_ne _ _ w]
      rcases hB r hr with ⟨a', b1, b2, b3, b4⟩ | w2
      · refine Or.inl ⟨a', b1, b2, b3, b4.trans ?_⟩
        unfold xrm
        rw [n23, n24, n25, n26, n27, n28, n29, upd_ne _ _ w, upd_ne _ _ w, upd_ne _ _ w, upd_ne _ _ w, upd_ne _ _ w, upd_ne _ _ w, upd_ne _ _ w]
      · exact Or.inr w2
  · intro d hd
    show (∃ a p, MD (uJ_room J) N2 d ∧ Q2 3 d = some a ∧ OKA E sz a ∧ OKA E sz p ∧ O a = some (xdr N2 Q2 fl d p) ∧ O p = some (xdp N2 d)) ∨ (¬ MD (uJ_room J) N2 d ∧ Q2 3 d = none)
    have em2 : MD (uJ_room J) N2 d = MD J N d := by unfold MD; rw [nn 30 (by decide)]; rfl
    rw [em2, qq 3 (by decide)]
    rcases hC d hd with ⟨a, p, b1, b2, b3, b4, b5, b6⟩ | w2
    · have hX : MX J N d := Or.inl ⟨hd, b1⟩
      obtain ⟨r, r1, r2, r3⟩ := ends_e hmi hX
      have e1 : ef N d = N 30 d := by unfold ef; rw [if_pos hd]
      have e2 : et N d = N 31 d := by unfold et; rw [if_pos hd]
      rw [e1] at r2
      rw [e2] at r3
      refine Or.inl ⟨a, p, b1, b2, b3, b4, b5.trans ?_, b6.trans ?_⟩
      · unfold xdr m_px m_py
        rw [nn 30 (by decide), nn 31 (by decide), nn 32 (by decide), nn 33 (by decide), nn 34 (by decide), nn 35 (by decide), nn 36 (by decide), nn 44 (by decide), nn 45 (by decide), rqk _ (Or.inr ⟨r, r1, r2⟩), rqk _ (r3.imp id (fun ⟨q, a1, a2, a3⟩ => ⟨q, a1, a3⟩))]
      · unfold xdp
        rw [nn 30 (by decide), n23k _ ⟨r, r1, r2⟩, nn 32 (by decide), nn 33 (by decide), nn 34 (by decide), nn 35 (by decide)]
    · exact Or.inr w2
  · intro d hd
    show (∃ a p c, MW (uJ_room J) N2 d ∧ Q2 4 d = some a ∧ OKA E sz a ∧ OKA E sz p ∧ Q2 2 (N2 37 d).toNatClampNeg = some c ∧ O a = some (cW c p) ∧ O p = some (xwp N2 d)) ∨ (¬ MW (uJ_room J) N2 d ∧ Q2 4 d = none)
    have em2 : MW (uJ_room J) N2 d = MW J N d := by unfold MW; rw [nn 37 (by decide)]; rfl
    rw [em2, qq 4 (by decide)]
    rcases hD d hd with ⟨a, p, c, b1, b2, b3, b4, b5, b6, b7⟩ | w2
    · rcases (hmi.2.2.2.1 d b1.1).1 with w | ⟨r, r1, r2⟩
      · exact absurd w b1.2
      have r20 := r1.lt hmi
      have rn := r1.1
      refine Or.inl ⟨a, p, c, b1, b2, b3, b4, ?_, b6, b7.trans ?_⟩
      · have b5 : Q 2 (N 37 d).toNatClampNeg = some c := b5
        rw [nn 37 (by decide), q2]
        rw [r2, n_cl (by omega)] at b5 ⊢
        rw [vaup_ne _ _ (by omega)]
        exact b5
      · unfold xwp
        rw [nn 37 (by decide), n23k _ ⟨r, r1, r2⟩, nn 38 (by decide), nn 39 (by decide), nn 40 (by decide), nn 41 (by decide)]
    · exact Or.inr w2
  · intro d hd
    show (∃ a, MT (uJ_room J) N2 d ∧ Q2 5 d = some a ∧ OKA E sz a ∧ O a = some (xst N2 Q2 d)) ∨ (¬ MT (uJ_room J) N2 d ∧ Q2 5 d = none)
    have em2 : MT (uJ_room J) N2 d = MT J N d := by unfold MT; rw [nn 42 (by decide)]; rfl
    rw [em2, qq 5 (by decide)]
    rcases hT d hd with ⟨a, b1, b2, b3, b4⟩ | w2
    · rcases (hmi.2.2.2.2.1 d b1.1).1 with w | ⟨r, r1, r2, q, qq2, -, q3⟩
      · exact absurd w b1.2
      refine Or.inl ⟨a, b1, b2, b3, b4.trans ?_⟩
      unfold xst
      rw [nn 42 (by decide), nn 43 (by decide), nn 44 (by decide), nn 45 (by decide), rqk _ (Or.inr ⟨r, r1, r2⟩), rqk _ (Or.inr ⟨q, qq2, q3⟩)]
    · exact Or.inr w2
  · intro d d2 a hd hd2 e1 e2
    have e1 : Q2 3 d = some a := e1
    have e2 : Q2 3 d2 = some a := e2
    rw [qq 3 (by decide)] at e1 e2
    exact hG d d2 a hd hd2 e1 e2
end XRS
def sp_X10_addRoom (E : zk_E) : zk_Sp zk_S := fun av σ sz P PX => match av with
  | [.ref a, .int fl, .int x, .int y, .int w, .int hh, .int u] => a = zk_ad E 0 ∧ E.1 + 28 ≤ sz ∧ ∃ J N, IC E sz σ J N ∧ (c_room J N fl x y w hh u = 1 → ZY σ sz "java/lang/IllegalArgumentException" PX) ∧ (c_room J N fl x y w hh u = 2 → ZY σ sz "java/lang/IllegalStateException" PX) ∧ (c_room J N fl x y w hh u = 0 → ZM E σ sz (uJ_room J) (uN_room N (m_nr J) fl x y w hh u) (some (.int (nI (m_nr J)))) P)
  | _ => False
theorem spe_X10_addRoom (E : zk_E) (a : Nat) (fl : Int32) (x : Int32) (y : Int32) (w : Int32) (hh : Int32) (u : Int32) (σ : zk_S) (sz : Nat) (P : zk_P zk_S) (PX : zk_X zk_S) : sp_X10_addRoom E [.ref a, .int fl, .int x, .int y, .int w, .int hh, .int u] σ sz P PX = (a = zk_ad E 0 ∧ E.1 + 28 ≤ sz ∧ ∃ J N, IC E sz σ J N ∧ (c_room J N fl x y w hh u = 1 → ZY σ sz "java/lang/IllegalArgumentException" PX) ∧ (c_room J N fl x y w hh u = 2 → ZY σ sz "java/lang/IllegalStateException" PX) ∧ (c_room J N fl x y w hh u = 0 → ZM E σ sz (uJ_room J) (uN_room N (m_nr J) fl x y w hh u) (some (.int (nI (m_nr J)))) P)) := propext Iff.rfl
def C_X10_addRoom (E : zk_E) : zk_Cl zk_S := zk_lka [(3, 3, 0, 0, sp_X10_isWithin E), (13, 3, 0, 0, sp_X10_isWithin E), (23, 3, 0, 0, sp_X10_isWithin E), (33, 3, 0, 0, sp_X10_isWithin E), (44, 3, 0, 0, sp_X10_isWithin E), (55, 3, 0, 0, sp_X10_isWithin E), (112, 8, 0, 0, zk_ri (sp_X6_init E)), (123, 2, 0, 0, zk_rv (zk_VT E) (fun ci => Nat.beq ci 4) (sp_X5_isInTheWay E))]
theorem r_X10_addRoom (E : zk_E) (P : zk_P zk_S) (PX : zk_X zk_S) (K : Nat → zk_L → List Value → zk_W zk_S → Prop) : (∀ (n : Nat) (l0 l2 l3 l4 l5 l6 l7 l8 : Option Value) (y1 : Int32) (r : List Value) (σ : zk_S) (sz k c : Nat), zk_run E (zk_VT E) M_X10_addRoom (C_X10_addRoom E) P PX K (n + 1) 0 [l0, some (.int y1), l2, l3, l4, l5, l6, l7, l8] r (σ, sz, k, c) = zk_run E (zk_VT E) M_X10_addRoom (C_X10_addRoom E) P PX K n 1 [l0, some (.int y1), l2, l3, l4, l5, l6, l7, l8] (.int y1 :: r) (σ, sz, k, c)) ∧
  (∀ (n : Nat) (l0 l1 l2 l3 l4 l5 l6 l7 l8 : Option Value)  (r : List Value) (σ : zk_S) (sz k c : Nat), zk_run E (zk_VT E) M_X10_addRoom (C_X10_addRoom E) P PX K (n + 1) 1 [l0, l1, l2, l3, l4, l5, l6, l7, l8] r (σ, sz, k, c) = zk_run E (zk_VT E) M_X10_addRoom (C_X10_addRoom E) P PX K n 2 [l0, l1, l2, l3, l4, l5, l6, l7, l8] (.int (0) :: r) (σ, sz, k, c)) ∧
  (∀ (n : Nat) (l0 l1 l2 l3 l4 l5 l6 l7 l8 : Option Value)  (r : List Value) (σ : zk_S) (sz k c : Nat), zk_run E (zk_VT E) M_X10_addRoom (C_X10_addRoom E) P PX K (n + 1) 2 [l0, l1, l2, l3, l4, l5, l6, l7, l8] r (σ, sz, k, c) = zk_run E (zk_VT E) M_X10_addRoom (C_X10_addRoom E) P PX K n 3 [l0, l1, l2, l3, l4, l5, l6, l7, l8] (.int (2) :: r) (σ, sz, k, c)) ∧
  (∀ (n : Nat) (l0 l1 l2 l3 l4 l5 l6 l7 l8 : Option Value) (v0 : Value) (v1 : Value) (v2 : Value)  (σ : zk_S) (sz k c : Nat), zk_run E (zk_VT E) M_X10_addRoom (C_X10_addRoom E) P PX K (n + 1) 3 [l0, l1, l2, l3, l4, l5, l6, l7, l8] [v0, v1, v2] (σ, sz, k, c) = (k + 0 ≤ 4 ∧ c + 0 ≤ 26 ∧ (sp_X10_isWithin E) [v2, v1, v0] σ sz (fun v s2 z2 => zk_run E (zk_VT E) M_X10_addRoom (C_X10_addRoom E) P PX K n 6 [l0, l1, l2, l3, l4, l5, l6, l7, l8] (zk_psh v []) (s2, z2, k + 0, c + 0)) (fun X s2 z2 => PX X s2 z2))) ∧
  (∀ (n : Nat) (l0 l1 l2 l3 l4 l5 l6 l7 l8 : Option Value) (x : Int32) (r : List Value) (σ : zk_S) (sz k c : Nat), zk_run E (zk_VT E) M_X10_addRoom (C_X10_addRoom E) P PX K (n + 1) 6 [l0, l1, l2, l3, l4, l5, l6, l7, l8] (.int x :: r) (σ, sz, k, c) = ((x = 0 → zk_run E (zk_VT E) M_X10_addRoom (C_X10_addRoom E) P PX K n 61 [l0, l1, l2, l3, l4, l5, l6, l7, l8] r (σ, sz, k, c)) ∧ (¬ (x = 0) → zk_run E (zk_VT E) M_X10_addRoom (C_X10_addRoom E) P PX K n 9 [l0, l1, l2, l3, l4, l5, l6, l7, l8] r (σ, sz, k, c)))) ∧
  (∀ (n : Nat) (l0 l1 l2 l3 l4 l5 l7 l8 : Option Value) (y6 : Int32) (r : List Value) (σ : zk_S) (sz k c : Nat), zk_run E (zk_VT E) M_X10_addRoom (C_X10_addRoom E) P PX K (n + 1) 9 [l0, l1, l2, l3, l4, l5, some (.int y6), l7, l8] r (σ, sz, k, c) = zk_run E (zk_VT E) M_X10_addRoom (C_X10_addRoom E) P PX K n 11 [l0, l1, l2, l3, l4, l5, some (.int y6), l7, l8] (.int y6 :: r) (σ, sz, k, c)) ∧
  (∀ (n : Nat) (l0 l1 l2 l3 l4 l5 l6 l7 l8 : Option Value)  (r : List Value) (σ : zk_S) (sz k c : Nat), zk_run E (zk_VT E) M_X10_addRoom (C_X10_addRoom E) P PX K (n + 1) 11 [l0, l1, l2, l3, l4, l5, l6, l7, l8] r (σ, sz, k, c) = zk_run E (zk_VT E) M_X10_addRoom (C_X10_addRoom E) P PX K n 12 [l0, l1, l2, l3, l4, l5, l6, l7, l8] (.int (0) :: r) (σ, sz, k, c)) ∧
  (∀ (n : Nat) (l0 l1 l2 l3 l4 l5 l6 l7 l8 : Option Value)  (r : List Value) (σ : zk_S) (sz k c : Nat), zk_run E (zk_VT E) M_X10_addRoom (C_X10_addRoom E) P PX K (n + 1) 12 [l0, l1, l2, l3, l4, l5, l6, l7, l8] r (σ, sz, k, c) = zk_run E (zk_VT E) M_X10_addRoom (C_X10_addRoom E) P PX K n 13 [l0, l1, l2, l3, l4, l5, l6, l7, l8] (.int (3) :: r) (σ, sz, k, c)) ∧
  (∀ (n : Nat) (l0 l1 l2 l3 l4 l5 l6 l7 l8 : Option Value) (v0 : Value) (v1 : Value) (v2 : Value)  (σ : zk_S) (sz k c : Nat), zk_run E (zk_VT E) M_X10_addRoom (C_X10_addRoom E) P PX K (n + 1) 13 [l0, l1, l2, l3, l4, l5, l6, l7, l8] [v0, v1, v2] (σ, sz, k, c) = (k + 0 ≤ 4 ∧ c + 0 ≤ 26 ∧ (sp_X10_isWithin E) [v2, v1, v0] σ sz (fun v s2 z2 => zk_run E (zk_VT E) M_X10_addRoom (C_X10_addRoom E) P PX K n 16 [l0, l1, l2, l3, l4, l5, l6, l7, l8] (zk_psh v []) (s2, z2, k + 0, c + 0)) (fun X s2 z2 => PX X s2 z2))) ∧
  (∀ (n : Nat) (l0 l1 l2 l3 l4 l5 l6 l7 l8 : Option Value) (x : Int32) (r : List Value) (σ : zk_S) (sz k c : Nat), zk_run E (zk_VT E) M_X10_addRoom (C_X10_addRoom E) P PX K (n + 1) 16 [l0, l1, l2, l3, l4, l5, l6, l7, l8] (.int x :: r) (σ, sz, k, c) = ((x = 0 → zk_run E (zk_VT E) M_X10_addRoom (C_X10_addRoom E) P PX K n 61 [l0, l1, l2, l3, l4, l5, l6, l7, l8] r (σ, sz, k, c)) ∧ (¬ (x = 0) → zk_run E (zk_VT E) M_X10_addRoom (C_X10_addRoom E) P PX K n 19 [l0, l1, l2, l3, l4, l5, l6, l7, l8] r (σ, sz, k, c)))) ∧
  (∀ (n : Nat) (l0 l1 l3 l4 l5 l6 l7 l8 : Option Value) (y2 : Int32) (r : List Value) (σ : zk_S) (sz k c : Nat), zk_run E (zk_VT E) M_X10_addRoom (C_X10_addRoom E) P PX K (n + 1) 19 [l0, l1, some (.int y2), l3, l4, l5, l6, l7, l8] r (σ, sz, k, c) = zk_run E (zk_VT E) M_X10_addRoom (C_X10_addRoom E) P PX K n 20 [l0, l1, some (.int y2), l3, l4, l5, l6, l7, l8] (.int y2 :: r) (σ, sz, k, c)) ∧
  (∀ (n : Nat) (l0 l1 l2 l3 l4 l5 l6 l7 l8 : Option Value)  (r : List Value) (σ : zk_S) (sz k c : Nat), zk_run E (zk_VT E) M_X10_addRoom (C_X10_addRoom E) P PX K (n + 1) 20 [l0, l1, l2, l3, l4, l5, l6, l7, l8] r (σ, sz, k, c) = zk_run E (zk_VT E) M_X10_addRoom (C_X10_addRoom E) P PX K n 21 [l0, l1, l2, l3, l4, l5, l6, l7, l8] (.int (0) :: r) (σ, sz, k, c)) ∧
  (∀ (n : Nat) (l0 l1 l2 l3 l4 l5 l6 l7 l8 : Option Value)  (r : List Value) (σ : zk_S) (sz k c : Nat), zk_run E (zk_VT E) M_X10_addRoom (C_X10_addRoom E) P PX K (n + 1) 21 [l0, l1, l2, l3, l4, l5, l6, l7, l8] r (σ, sz, k, c) = zk_run E (zk_VT E) M_X10_addRoom (C_X10_addRoom E) P PX K n 23 [l0, l1, l2, l3, l4, l5, l6, l7, l8] (.int (60) :: r) (σ, sz, k, c)) ∧
  (∀ (n : Nat) (l0 l1 l2 l3 l4 l5 l6 l7 l8 : Option Value) (v0 : Value) (v1 : Value) (v2 : Value)  (σ : zk_S) (sz k c : Nat), zk_run E (zk_VT E) M_X10_addRoom (C_X10_addRoom E) P PX K (n + 1) 23 [l0, l1, l2, l3, l4, l5, l6, l7, l8] [v0, v1, v2] (σ, sz, k, c) = (k + 0 ≤ 4 ∧ c + 0 ≤ 26 ∧ (sp_X10_isWithin E) [v2, v1, v0] σ sz (fun v s2 z2 => zk_run E (zk_VT E) M_X10_addRoom (C_X10_addRoom E) P PX K n 26 [l0, l1, l2, l3, l4, l5, l6, l7, l8] (zk_psh v []) (s2, z2, k + 0, c + 0)) (fun X s2 z2 => PX X s2 z2))) ∧
  (∀ (n : Nat) (l0 l1 l2 l3 l4 l5 l6 l7 l8 : Option Value) (x : Int32) (r : List Value) (σ : zk_S) (sz k c : Nat), zk_run E (zk_VT E) M_X10_addRoom (C_X10_addRoom E) P PX K (n + 1) 26 [l0, l1, l2, l3, l4, l5, l6, l7, l8] (.int x :: r) (σ, sz, k, c) = ((x = 0 → zk_run E (zk_VT E) M_X10_addRoom (C_X10_addRoom E) P PX K n 61 [l0, l1, l2, l3, l4, l5, l6, l7, l8] r (σ, sz, k, c)) ∧ (¬ (x = 0) → zk_run E (zk_VT E) M_X10_addRoom (C_X10_addRoom E) P PX K n 29 [l0, l1, l2, l3, l4, l5, l6, l7, l8] r (σ, sz, k, c)))) ∧
  (∀ (n : Nat) (l0 l1 l2 l4 l5 l6 l7 l8 : Option Value) (y3 : Int32) (r : List Value) (σ : zk_S) (sz k c : Nat), zk_run E (zk_VT E) M_X10_addRoom (C_X10_addRoom E) P PX K (n + 1) 29 [l0, l1, l2, some (.int y3), l4, l5, l6, l7, l8] r (σ, sz, k, c) = zk_run E (zk_VT E) M_X10_addRoom (C_X10_addRoom E) P PX K n 30 [l0, l1, l2, some (.int y3), l4, l5, l6, l7, l8] (.int y3 :: r) (σ, sz, k, c)) ∧
  (∀ (n : Nat) (l0 l1 l2 l3 l4 l5 l6 l7 l8 : Option Value)  (r : List Value) (σ : zk_S) (sz k c : Nat), zk_run E (zk_VT E) M_X10_addRoom (C_X10_addRoom E) P PX K (n + 1) 30 [l0, l1, l2, l3, l4, l5, l6, l7, l8] r (σ, sz, k, c) = zk_run E (zk_VT E) M_X10_addRoom (C_X10_addRoom E) P PX K n 31 [l0, l1, l2, l3, l4, l5, l6, l7, l8] (.int (0) :: r) (σ, sz, k, c)) ∧
  (∀ (n : Nat) (l0 l1 l2 l3 l4 l5 l6 l7 l8 : Option Value)  (r : List Value) (σ : zk_S) (sz k c : Nat), zk_run E (zk_VT E) M_X10_addRoom (C_X10_addRoom E) P PX K (n + 1) 31 [l0, l1, l2, l3, l4, l5, l6, l7, l8] r (σ, sz, k, c) = zk_run E (zk_VT E) M_X10_addRoom (C_X10_addRoom E) P PX K n 33 [l0, l1, l2, l3, l4, l5, l6, l7, l8] (.int (60) :: r) (σ, sz, k, c)) ∧
  (∀ (n : Nat) (l0 l1 l2 l3 l4 l5 l6 l7 l8 : Option Value) (v0 : Value) (v1 : Value) (v2 : Value)  (σ : zk_S) (sz k c : Nat), zk_run E (zk_VT E) M_X10_addRoom (C_X10_addRoom E) P PX K (n + 1) 33 [l0, l1, l2, l3, l4, l5, l6, l7, l8] [v0, v1, v2] (σ, sz, k, c) = (k + 0 ≤ 4 ∧ c + 0 ≤ 26 ∧ (sp_X10_isWithin E) [v2, v1, v0] σ sz (fun v s2 z2 => zk_run E (zk_VT E) M_X10_addRoom (C_X10_addRoom E) P PX K n 36 [l0, l1, l2, l3, l4, l5, l6, l7, l8] (zk_psh v []) (s2, z2, k + 0, c + 0)) (fun X s2 z2 => PX X s2 z2))) ∧
  (∀ (n : Nat) (l0 l1 l2 l3 l4 l5 l6 l7 l8 : Option Value) (x : Int32) (r : List Value) (σ : zk_S) (sz k c : Nat), zk_run E (zk_VT E) M_X10_addRoom (C_X10_addRoom E) P PX K (n + 1) 36 [l0, l1, l2, l3, l4, l5, l6, l7, l8] (.int x :: r) (σ, sz, k, c) = ((x = 0 → zk_run E (zk_VT E) M_X10_addRoom (C_X10_addRoom E) P PX K n 61 [l0, l1, l2, l3, l4, l5, l6, l7, l8] r (σ, sz, k, c)) ∧ (¬ (x = 0) → zk_run E (zk_VT E) M_X10_addRoom (C_X10_addRoom E) P PX K n 39 [l0, l1, l2, l3, l4, l5, l6, l7, l8] r (σ, sz, k, c)))) ∧
  (∀ (n : Nat) (l0 l1 l2 l3 l5 l6 l7 l8 : Option Value) (y4 : Int32) (r : List Value) (σ : zk_S) (sz k c : Nat), zk_run E (zk_VT E) M_X10_addRoom (C_X10_addRoom E) P PX K (n + 1) 39 [l0, l1, l2, l3, some (.int y4), l5, l6, l7, l8] r (σ, sz, k, c) = zk_run E (zk_VT E) M_X10_addRoom (C_X10_addRoom E) P PX K n 41 [l0, l1, l2, l3, some (.int y4), l5, l6, l7, l8] (.int y4 :: r) (σ, sz, k, c)) ∧
  (∀ (n : Nat) (l0 l1 l2 l3 l4 l5 l6 l7 l8 : Option Value)  (r : List Value) (σ : zk_S) (sz k c : Nat), zk_run E (zk_VT E) M_X10_addRoom (C_X10_addRoom E) P PX K (n + 1) 41 [l0, l1, l2, l3, l4, l5, l6, l7, l8] r (σ, sz, k, c) = zk_run E (zk_VT E) M_X10_addRoom (C_X10_addRoom E) P PX K n 42 [l0, l1, l2, l3, l4, l5, l6, l7, l8] (.int (1) :: r) (σ, sz, k, c)) ∧
  (∀ (n : Nat) (l0 l1 l2 l3 l4 l5 l6 l7 l8 : Option Value)  (r : List Value) (σ : zk_S) (sz k c : Nat), zk_run E (zk_VT E) M_X10_addRoom (C_X10_addRoom E) P PX K (n + 1) 42 [l0, l1, l2, l3, l4, l5, l6, l7, l8] r (σ, sz, k, c) = zk_run E (zk_VT E) M_X10_addRoom (C_X10_addRoom E) P PX K n 44 [l0, l1, l2, l3, l4, l5, l6, l7, l8] (.int (30) :: r) (σ, sz, k, c)) ∧
  (∀ (n : Nat) (l0 l1 l2 l3 l4 l5 l6 l7 l8 : Option Value) (v0 : Value) (v1 : Value) (v2 : Value)  (σ : zk_S) (sz k c : Nat), zk_run E (zk_VT E) M_X10_addRoom (C_X10_addRoom E) P PX K (n + 1) 44 [l0, l1, l2, l3, l4, l5, l6, l7, l8] [v0, v1, v2] (σ, sz, k, c) = (k + 0 ≤ 4 ∧ c + 0 ≤ 26 ∧ (sp_X10_isWithin E) [v2, v1, v0] σ sz (fun v s2 z2 => zk_run E (zk_VT E) M_X10_addRoom (C_X10_addRoom E) P PX K n 47 [l0, l1, l2, l3, l4, l5, l6, l7, l8] (zk_psh v []) (s2, z2, k + 0, c + 0)) (fun X s2 z2 => PX X s2 z2))) ∧
  (∀ (n : Nat) (l0 l1 l2 l3 l4 l5 l6 l7 l8 : Option Value) (x : Int32) (r : List Value) (σ : zk_S) (sz k c : Nat), zk_run E (zk_VT E) M_X10_addRoom (C_X10_addRoom E) P PX K (n + 1) 47 [l0, l1, l2, l3, l4, l5, l6, l7, l8] (.int x :: r) (σ, sz, k, c) = ((x = 0 → zk_run E (zk_VT E) M_X10_addRoom (C_X10_addRoom E) P PX K n 61 [l0, l1, l2, l3, l4, l5, l6, l7, l8] r (σ, sz, k, c)) ∧ (¬ (x = 0) → zk_run E (zk_VT E) M_X10_addRoom (C_X10_addRoom E) P PX K n 50 [l0, l1, l2, l3, l4, l5, l6, l7, l8] r (σ, sz, k, c)))) ∧
  (∀ (n : Nat) (l0 l1 l2 l3 l4 l6 l7 l8 : Option Value) (y5 : Int32) (r : List Value) (σ : zk_S) (sz k c : Nat), zk_run E (zk_VT E) M_X10_addRoom (C_X10_addRoom E) P PX K (n + 1) 50 [l0, l1, l2, l3, l4, some (.int y5), l6, l7, l8] r (σ, sz, k, c) = zk_run E (zk_VT E) M_X10_addRoom (C_X10_addRoom E) P PX K n 52 [l0, l1, l2, l3, l4, some (.int y5), l6, l7, l8] (.int y5 :: r) (σ, sz, k, c)) ∧
  (∀ (n : Nat) (l0 l1 l2 l3 l4 l5 l6 l7 l8 : Option Value)  (r : List Value) (σ : zk_S) (sz k c : Nat), zk_run E (zk_VT E) M_X10_addRoom (C_X10_addRoom E) P PX K (n + 1) 52 [l0, l1, l2, l3, l4, l5, l6, l7, l8] r (σ, sz, k, c) = zk_run E (zk_VT E) M_X10_addRoom (C_X10_addRoom E) P PX K n 53 [l0, l1, l2, l3, l4, l5, l6, l7, l8] (.int (1) :: r) (σ, sz, k, c)) ∧
  (∀ (n : Nat) (l0 l1 l2 l3 l4 l5 l6 l7 l8 : Option Value)  (r : List Value) (σ : zk_S) (sz k c : Nat), zk_run E (zk_VT E) M_X10_addRoom (C_X10_addRoom E) P PX K (n + 1) 53 [l0, l1, l2, l3, l4, l5, l6, l7, l8] r (σ, sz, k, c) = zk_run E (zk_VT E) M_X10_addRoom (C_X10_addRoom E) P PX K n 55 [l0, l1, l2, l3, l4, l5, l6, l7, l8] (.int (30) :: r) (σ, sz, k, c)) ∧
  (∀ (n : Nat) (l0 l1 l2 l3 l4 l5 l6 l7 l8 : Option Value) (v0 : Value) (v1 : Value) (v2 : Value)  (σ : zk_S) (sz k c : Nat), zk_run E (zk_VT E) M_X10_addRoom (C_X10_addRoom E) P PX K (n + 1) 55 [l0, l1, l2, l3, l4, l5, l6, l7, l8] [v0, v1, v2] (σ, sz, k, c) = (k + 0 ≤ 4 ∧ c + 0 ≤ 26 ∧ (sp_X10_isWithin E) [v2, v1, v0] σ sz (fun v s2 z2 => zk_run E (zk_VT E) M_X10_addRoom (C_X10_addRoom E) P PX K n 58 [l0, l1, l2, l3, l4, l5, l6, l7, l8] (zk_psh v []) (s2, z2, k + 0, c + 0)) (fun X s2 z2 => PX X s2 z2))) ∧
  (∀ (n : Nat) (l0 l1 l2 l3 l4 l5 l6 l7 l8 : Option Value) (x : Int32) (r : List Value) (σ : zk_S) (sz k c : Nat), zk_run E (zk_VT E) M_X10_addRoom (C_X10_addRoom E) P PX K (n + 1) 58 [l0, l1, l2, l3, l4, l5, l6, l7, l8] (.int x :: r) (σ, sz, k, c) = ((¬ x = 0 → zk_run E (zk_VT E) M_X10_addRoom (C_X10_addRoom E) P PX K n 71 [l0, l1, l2, l3, l4, l5, l6, l7, l8] r (σ, sz, k, c)) ∧ (¬ (¬ x = 0) → zk_run E (zk_VT E) M_X10_addRoom (C_X10_addRoom E) P PX K n 61 [l0, l1, l2, l3, l4, l5, l6, l7, l8] r (σ, sz, k, c)))) ∧
  (∀ (n : Nat) (l0 l1 l2 l3 l4 l5 l6 l7 l8 : Option Value)   (σ : zk_S) (sz k c : Nat), zk_run E (zk_VT E) M_X10_addRoom (C_X10_addRoom E) P PX K (n + 1) 61 [l0, l1, l2, l3, l4, l5, l6, l7, l8] [] (σ, sz, k, c) = (([] : List Value) = [] ∧ (∀ z2, sz ≤ z2 → PX "java/lang/IllegalArgumentException" σ z2) ∧ k + 1 ≤ 4 ∧ c + 6 ≤ 26)) ∧
  (∀ (n : Nat) (l1 l2 l3 l4 l5 l6 l7 l8 : Option Value) (y0 : Value) (r : List Value) (σ : zk_S) (sz k c : Nat), zk_run E (zk_VT E) M_X10_addRoom (C_X10_addRoom E) P PX K (n + 1) 71 [some y0, l1, l2, l3, l4, l5, l6, l7, l8] r (σ, sz, k, c) = (zk_isr y0 ∧ zk_run E (zk_VT E) M_X10_addRoom (C_X10_addRoom E) P PX K n 72 [some y0, l1, l2, l3, l4, l5, l6, l7, l8] (y0 :: r) (σ, sz, k, c))) ∧
  (∀ (n : Nat) (l0 l1 l2 l3 l4 l5 l6 l7 l8 : Option Value) (a : Nat) (r : List Value) (σ : zk_S) (sz k c : Nat), zk_run E (zk_VT E) M_X10_addRoom (C_X10_addRoom E) P PX K (n + 1) 72 [l0, l1, l2, l3, l4, l5, l6, l7, l8] (.ref a :: r) (σ, sz, k, c) = zk_fld (zk_view E σ a) [9] 0 (fun v => zk_run E (zk_VT E) M_X10_addRoom (C_X10_addRoom E) P PX K n 75 [l0, l1, l2, l3, l4, l5, l6, l7, l8] (v :: r) (σ, sz, k, c))) ∧
  (∀ (n : Nat) (l0 l1 l2 l3 l4 l5 l6 l7 l8 : Option Value) (a : Nat) (r : List Value) (σ : zk_S) (sz k c : Nat), zk_run E (zk_VT E) M_X10_addRoom (C_X10_addRoom E) P PX K (n + 1) 75 [l0, l1, l2, l3, l4, l5, l6, l7, l8] (.ref a :: r) (σ, sz, k, c) = zk_fld (zk_view E σ a) [4] 5 (fun v => zk_run E (zk_VT E) M_X10_addRoom (C_X10_addRoom E) P PX K n 78 [l0, l1, l2, l3, l4, l5, l6, l7, l8] (v :: r) (σ, sz, k, c))) ∧
  (∀ (n : Nat) (l0 l1 l2 l3 l4 l5 l6 l7 l8 : Option Value) (x : Int32) (r : List Value) (σ : zk_S) (sz k c : Nat), zk_run E (zk_VT E) M_X10_addRoom (C_X10_addRoom E) P PX K (n + 1) 78 [l0, l1, l2, l3, l4, l5, l6, l7, l8] (.int x :: r) (σ, sz, k, c) = zk_run E (zk_VT E) M_X10_addRoom (C_X10_addRoom E) P PX K n 80 [l0, l1, l2, l3, l4, l5, zk_kl l6, some (.int x), l8] r (σ, sz, k, c)) ∧
  (∀ (n : Nat) (l0 l1 l2 l3 l4 l5 l6 l8 : Option Value) (y7 : Int32) (r : List Value) (σ : zk_S) (sz k c : Nat), zk_run E (zk_VT E) M_X10_addRoom (C_X10_addRoom E) P PX K (n + 1) 80 [l0, l1, l2, l3, l4, l5, l6, some (.int y7), l8] r (σ, sz, k, c) = zk_run E (zk_VT E) M_X10_addRoom (C_X10_addRoom E) P PX K n 82 [l0, l1, l2, l3, l4, l5, l6, some (.int y7), l8] (.int y7 :: r) (σ, sz, k, c)) ∧
  (∀ (n : Nat) (l0 l1 l2 l3 l4 l5 l6 l7 l8 : Option Value)  (r : List Value) (σ : zk_S) (sz k c : Nat), zk_run E (zk_VT E) M_X10_addRoom (C_X10_addRoom E) P PX K (n + 1) 82 [l0, l1, l2, l3, l4, l5, l6, l7, l8] r (σ, sz, k, c) = zk_run E (zk_VT E) M_X10_addRoom (C_X10_addRoom E) P PX K n 84 [l0, l1, l2, l3, l4, l5, l6, l7, l8] (.int (20) :: r) (σ, sz, k, c)) ∧
  (∀ (n : Nat) (l0 l1 l2 l3 l4 l5 l6 l7 l8 : Option Value) (x y : Int32) (r : List Value) (σ : zk_S) (sz k c : Nat), zk_run E (zk_VT E) M_X10_addRoom (C_X10_addRoom E) P PX K (n + 1) 84 [l0, l1, l2, l3, l4, l5, l6, l7, l8] (.int y :: .int x :: r) (σ, sz, k, c) = ((x < y → zk_run E (zk_VT E) M_X10_addRoom (C_X10_addRoom E) P PX K n 97 [l0, l1, l2, l3, l4, l5, l6, l7, l8] r (σ, sz, k, c)) ∧ (¬ (x < y) → zk_run E (zk_VT E) M_X10_addRoom (C_X10_addRoom E) P PX K n 87 [l0, l1, l2, l3, l4, l5, l6, l7, l8] r (σ, sz, k, c)))) ∧
  (∀ (n : Nat) (l0 l1 l2 l3 l4 l5 l6 l7 l8 : Option Value)   (σ : zk_S) (sz k c : Nat), zk_run E (zk_VT E) M_X10_addRoom (C_X10_addRoom E) P PX K (n + 1) 87 [l0, l1, l2, l3, l4, l5, l6, l7, l8] [] (σ, sz, k, c) = (([] : List Value) = [] ∧ (∀ z2, sz ≤ z2 → PX "java/lang/IllegalStateException" σ z2) ∧ k + 1 ≤ 4 ∧ c + 6 ≤ 26)) ∧
  (∀ (n : Nat) (l0 l1 l2 l3 l4 l5 l6 l7 l8 : Option Value)  (r : List Value) (σ : zk_S) (sz k c : Nat), zk_run E (zk_VT E) M_X10_addRoom (C_X10_addRoom E) P PX K (n + 1) 97 [l0, l1, l2, l3, l4, l5, l6, l7, l8] r (σ, sz, k, c) = (k + 1 ≤ 4 ∧ c + (zk_new 5).length ≤ 26 ∧ zk_wrok E σ sz (.inr (5, zk_new 5)) ∧ zk_run E (zk_VT E) M_X10_addRoom (C_X10_addRoom E) P PX K n 100 [l0, l1, l2, l3, l4, l5, l6, l7, l8] (.ref sz :: r) (zk_wr E σ sz (.inr (5, zk_new 5)), sz + 1, k + 1, c + (zk_new 5).length))) := ⟨by intros; rfl, by intros; rfl, by intros; rfl, by intros; rfl, by intros; rfl, by intros; rfl, by intros; rfl, by intros; rfl, by intros; rfl, by intros; rfl, by intros; rfl, by intros; rfl, by intros; rfl, by intros; rfl, by intros; rfl, by intros; rfl, by intros; rfl, by intros; rfl, by intros; rfl, by intros; rfl, by intros; rfl, by intros; rfl, by intros; rfl, by intros; rfl, by intros; rfl, by intros; rfl, by intros; rfl, by intros; rfl, by intros; rfl, by intros; rfl, by intros; rfl, by intros; rfl, by intros; rfl, by intros; rfl, by intros; rfl, by intros; rfl, by intros; rfl, by intros; rfl, by intros; rfl, by intros; rfl⟩
theorem r_X10_addRoom_1 (E : zk_E) (P : zk_P zk_S) (PX : zk_X zk_S) (K : Nat → zk_L → List Value → zk_W zk_S → Prop) : (∀ (n : Nat) (l0 l1 l2 l3 l4 l5 l6 l7 l8 : Option Value) (v : Value) (r : List Value) (σ : zk_S) (sz k c : Nat), zk_run E (zk_VT E) M_X10_addRoom (C_X10_addRoom E) P PX K (n + 1) 100 [l0, l1, l2, l3, l4, l5, l6, l7, l8] (v :: r) (σ, sz, k, c) = (zk_c1 v ∧ zk_run E (zk_VT E) M_X10_addRoom (C_X10_addRoom E) P PX K n 101 [l0, l1, l2, l3, l4, l5, l6, l7, l8] (v :: v :: r) (σ, sz, k, c))) ∧
  (∀ (n : Nat) (l0 l1 l2 l3 l4 l5 l6 l8 : Option Value) (y7 : Int32) (r : List Value) (σ : zk_S) (sz k c : Nat), zk_run E (zk_VT E) M_X10_addRoom (C_X10_addRoom E) P PX K (n + 1) 101 [l0, l1, l2, l3, l4, l5, l6, some (.int y7), l8] r (σ, sz, k, c) = zk_run E (zk_VT E) M_X10_addRoom (C_X10_addRoom E) P PX K n 103 [l0, l1, l2, l3, l4, l5, l6, some (.int y7), l8] (.int y7 :: r) (σ, sz, k, c)) ∧
  (∀ (n : Nat) (l0 l2 l3 l4 l5 l6 l7 l8 : Option Value) (y1 : Int32) (r : List Value) (σ : zk_S) (sz k c : Nat), zk_run E (zk_VT E) M_X10_addRoom (C_X10_addRoom E) P PX K (n + 1) 103 [l0, some (.int y1), l2, l3, l4, l5, l6, l7, l8] r (σ, sz, k, c) = zk_run E (zk_VT E) M_X10_addRoom (C_X10_addRoom E) P PX K n 104 [l0, some (.int y1), l2, l3, l4, l5, l6, l7, l8] (.int y1 :: r) (σ, sz, k, c)) ∧
  (∀ (n : Nat) (l0 l1 l3 l4 l5 l6 l7 l8 : Option Value) (y2 : Int32) (r : List Value) (σ : zk_S) (sz k c : Nat), zk_run E (zk_VT E) M_X10_addRoom (C_X10_addRoom E) P PX K (n + 1) 104 [l0, l1, some (.int y2), l3, l4, l5, l6, l7, l8] r (σ, sz, k, c) = zk_run E (zk_VT E) M_X10_addRoom (C_X10_addRoom E) P PX K n 105 [l0, l1, some (.int y2), l3, l4, l5, l6, l7, l8] (.int y2 :: r) (σ, sz, k, c)) ∧
  (∀ (n : Nat) (l0 l1 l2 l4 l5 l6 l7 l8 : Option Value) (y3 : Int32) (r : List Value) (σ : zk_S) (sz k c : Nat), zk_run E (zk_VT E) M_X10_addRoom (C_X10_addRoom E) P PX K (n + 1) 105 [l0, l1, l2, some (.int y3), l4, l5, l6, l7, l8] r (σ, sz, k, c) = zk_run E (zk_VT E) M_X10_addRoom (C_X10_addRoom E) P PX K n 106 [l0, l1, l2, some (.int y3), l4, l5, l6, l7, l8] (.int y3 :: r) (σ, sz, k, c)) ∧
  (∀ (n : Nat) (l0 l1 l2 l3 l5 l6 l7 l8 : Option Value) (y4 : Int32) (r : List Value) (σ : zk_S) (sz k c : Nat), zk_run E (zk_VT E) M_X10_addRoom (C_X10_addRoom E) P PX K (n + 1) 106 [l0, l1, l2, l3, some (.int y4), l5, l6, l7, l8] r (σ, sz, k, c) = zk_run E (zk_VT E) M_X10_addRoom (C_X10_addRoom E) P PX K n 108 [l0, l1, l2, l3, some (.int y4), l5, l6, l7, l8] (.int y4 :: r) (σ, sz, k, c)) ∧
  (∀ (n : Nat) (l0 l1 l2 l3 l4 l6 l7 l8 : Option Value) (y5 : Int32) (r : List Value) (σ : zk_S) (sz k c : Nat), zk_run E (zk_VT E) M_X10_addRoom (C_X10_addRoom E) P PX K (n + 1) 108 [l0, l1, l2, l3, l4, some (.int y5), l6, l7, l8] r (σ, sz, k, c) = zk_run E (zk_VT E) M_X10_addRoom (C_X10_addRoom E) P PX K n 110 [l0, l1, l2, l3, l4, some (.int y5), l6, l7, l8] (.int y5 :: r) (σ, sz, k, c)) ∧
  (∀ (n : Nat) (l0 l1 l2 l3 l4 l5 l7 l8 : Option Value) (y6 : Int32) (r : List Value) (σ : zk_S) (sz k c : Nat), zk_run E (zk_VT E) M_X10_addRoom (C_X10_addRoom E) P PX K (n + 1) 110 [l0, l1, l2, l3, l4, l5, some (.int y6), l7, l8] r (σ, sz, k, c) = zk_run E (zk_VT E) M_X10_addRoom (C_X10_addRoom E) P PX K n 112 [l0, l1, l2, l3, l4, l5, some (.int y6), l7, l8] (.int y6 :: r) (σ, sz, k, c)) ∧
  (∀ (n : Nat) (l0 l1 l2 l3 l4 l5 l6 l7 l8 : Option Value) (v0 : Value) (v1 : Value) (v2 : Value) (v3 : Value) (v4 : Value) (v5 : Value) (v6 : Value) (v7 : Value) (v8 : Value)  (σ : zk_S) (sz k c : Nat), zk_run E (zk_VT E) M_X10_addRoom (C_X10_addRoom E) P PX K (n + 1) 112 [l0, l1, l2, l3, l4, l5, l6, l7, l8] [v0, v1, v2, v3, v4, v5, v6, v7, v8] (σ, sz, k, c) = (k + 0 ≤ 4 ∧ c + 0 ≤ 26 ∧ (zk_ri (sp_X6_init E)) [v7, v6, v5, v4, v3, v2, v1, v0] σ sz (fun v s2 z2 => zk_run E (zk_VT E) M_X10_addRoom (C_X10_addRoom E) P PX K n 115 [l0, l1, l2, l3, l4, l5, l6, l7, l8] (zk_psh v [v8]) (s2, z2, k + 0, c + 0)) (fun X s2 z2 => PX X s2 z2))) ∧
  (∀ (n : Nat) (l0 l1 l2 l3 l4 l5 l6 l7 l8 : Option Value) (x : Value) (r : List Value) (σ : zk_S) (sz k c : Nat), zk_run E (zk_VT E) M_X10_addRoom (C_X10_addRoom E) P PX K (n + 1) 115 [l0, l1, l2, l3, l4, l5, l6, l7, l8] (x :: r) (σ, sz, k, c) = (zk_isr x ∧ zk_run E (zk_VT E) M_X10_addRoom (C_X10_addRoom E) P PX K n 117 [l0, l1, l2, l3, l4, l5, l6, zk_kl l7, some (x)] r (σ, sz, k, c))) ∧
  (∀ (n : Nat) (l1 l2 l3 l4 l5 l6 l7 l8 : Option Value) (y0 : Value) (r : List Value) (σ : zk_S) (sz k c : Nat), zk_run E (zk_VT E) M_X10_addRoom (C_X10_addRoom E) P PX K (n + 1) 117 [some y0, l1, l2, l3, l4, l5, l6, l7, l8] r (σ, sz, k, c) = (zk_isr y0 ∧ zk_run E (zk_VT E) M_X10_addRoom (C_X10_addRoom E) P PX K n 118 [some y0, l1, l2, l3, l4, l5, l6, l7, l8] (y0 :: r) (σ, sz, k, c))) ∧
  (∀ (n : Nat) (l0 l1 l2 l3 l4 l5 l6 l7 l8 : Option Value) (a : Nat) (r : List Value) (σ : zk_S) (sz k c : Nat), zk_run E (zk_VT E) M_X10_addRoom (C_X10_addRoom E) P PX K (n + 1) 118 [l0, l1, l2, l3, l4, l5, l6, l7, l8] (.ref a :: r) (σ, sz, k, c) = zk_fld (zk_view E σ a) [9] 0 (fun v => zk_run E (zk_VT E) M_X10_addRoom (C_X10_addRoom E) P PX K n 121 [l0, l1, l2, l3, l4, l5, l6, l7, l8] (v :: r) (σ, sz, k, c))) ∧
  (∀ (n : Nat) (l0 l1 l2 l3 l4 l5 l6 l7 : Option Value) (y8 : Value) (r : List Value) (σ : zk_S) (sz k c : Nat), zk_run E (zk_VT E) M_X10_addRoom (C_X10_addRoom E) P PX K (n + 1) 121 [l0, l1, l2, l3, l4, l5, l6, l7, some y8] r (σ, sz, k, c) = (zk_isr y8 ∧ zk_run E (zk_VT E) M_X10_addRoom (C_X10_addRoom E) P PX K n 123 [l0, l1, l2, l3, l4, l5, l6, l7, some y8] (y8 :: r) (σ, sz, k, c))) ∧
  (∀ (n : Nat) (l0 l1 l2 l3 l4 l5 l6 l7 l8 : Option Value) (v0 : Value) (v1 : Value)  (σ : zk_S) (sz k c : Nat), zk_run E (zk_VT E) M_X10_addRoom (C_X10_addRoom E) P PX K (n + 1) 123 [l0, l1, l2, l3, l4, l5, l6, l7, l8] [v0, v1] (σ, sz, k, c) = (k + 0 ≤ 4 ∧ c + 0 ≤ 26 ∧ (zk_rv (zk_VT E) (fun ci => Nat.beq ci 4) (sp_X5_isInTheWay E)) [v1, v0] σ sz (fun v s2 z2 => zk_run E (zk_VT E) M_X10_addRoom (C_X10_addRoom E) P PX K n 126 [l0, l1, l2, l3, l4, l5, l6, l7, l8] (zk_psh v []) (s2, z2, k + 0, c + 0)) (fun X s2 z2 => PX X s2 z2))) ∧
  (∀ (n : Nat) (l0 l1 l2 l3 l4 l5 l6 l7 l8 : Option Value) (x : Int32) (r : List Value) (σ : zk_S) (sz k c : Nat), zk_run E (zk_VT E) M_X10_addRoom (C_X10_addRoom E) P PX K (n + 1) 126 [l0, l1, l2, l3, l4, l5, l6, l7, l8] (.int x :: r) (σ, sz, k, c) = ((x = 0 → zk_run E (zk_VT E) M_X10_addRoom (C_X10_addRoom E) P PX K n 139 [l0, l1, l2, l3, l4, l5, l6, l7, l8] r (σ, sz, k, c)) ∧ (¬ (x = 0) → zk_run E (zk_VT E) M_X10_addRoom (C_X10_addRoom E) P PX K n 129 [l0, l1, l2, l3, l4, l5, l6, l7, l8] r (σ, sz, k, c)))) ∧
  (∀ (n : Nat) (l0 l1 l2 l3 l4 l5 l6 l7 l8 : Option Value)   (σ : zk_S) (sz k c : Nat), zk_run E (zk_VT E) M_X10_addRoom (C_X10_addRoom E) P PX K (n + 1) 129 [l0, l1, l2, l3, l4, l5, l6, l7, l8] [] (σ, sz, k, c) = (([] : List Value) = [] ∧ (∀ z2, sz ≤ z2 → PX "java/lang/IllegalStateException" σ z2) ∧ k + 1 ≤ 4 ∧ c + 6 ≤ 26)) ∧
  (∀ (n : Nat) (l1 l2 l3 l4 l5 l6 l7 l8 : Option Value) (y0 : Value) (r : List Value) (σ : zk_S) (sz k c : Nat), zk_run E (zk_VT E) M_X10_addRoom (C_X10_addRoom E) P PX K (n + 1) 139 [some y0, l1, l2, l3, l4, l5, l6, l7, l8] r (σ, sz, k, c) = (zk_isr y0 ∧ zk_run E (zk_VT E) M_X10_addRoom (C_X10_addRoom E) P PX K n 140 [some y0, l1, l2, l3, l4, l5, l6, l7, l8] (y0 :: r) (σ, sz, k, c))) ∧
  (∀ (n : Nat) (l0 l1 l2 l3 l4 l5 l6 l7 l8 : Option Value) (a : Nat) (r : List Value) (σ : zk_S) (sz k c : Nat), zk_run E (zk_VT E) M_X10_addRoom (C_X10_addRoom E) P PX K (n + 1) 140 [l0, l1, l2, l3, l4, l5, l6, l7, l8] (.ref a :: r) (σ, sz, k, c) = zk_fld (zk_view E σ a) [9] 0 (fun v => zk_run E (zk_VT E) M_X10_addRoom (C_X10_addRoom E) P PX K n 143 [l0, l1, l2, l3, l4, l5, l6, l7, l8] (v :: r) (σ, sz, k, c))) ∧
  (∀ (n : Nat) (l0 l1 l2 l3 l4 l5 l6 l7 l8 : Option Value) (a : Nat) (r : List Value) (σ : zk_S) (sz k c : Nat), zk_run E (zk_VT E) M_X10_addRoom (C_X10_addRoom E) P PX K (n + 1) 143 [l0, l1, l2, l3, l4, l5, l6, l7, l8] (.ref a :: r) (σ, sz, k, c) = zk_fld (zk_view E σ a) [4] 0 (fun v => zk_run E (zk_VT E) M_X10_addRoom (C_X10_addRoom E) P PX K n 146 [l0, l1, l2, l3, l4, l5, l6, l7, l8] (v :: r) (σ, sz, k, c))) ∧
  (∀ (n : Nat) (l0 l1 l2 l3 l4 l5 l6 l8 : Option Value) (y7 : Int32) (r : List Value) (σ : zk_S) (sz k c : Nat), zk_run E (zk_VT E) M_X10_addRoom (C_X10_addRoom E) P PX K (n + 1) 146 [l0, l1, l2, l3, l4, l5, l6, some (.int y7), l8] r (σ, sz, k, c) = zk_run E (zk_VT E) M_X10_addRoom (C_X10_addRoom E) P PX K n 148 [l0, l1, l2, l3, l4, l5, l6, some (.int y7), l8] (.int y7 :: r) (σ, sz, k, c)) ∧
  (∀ (n : Nat) (l0 l1 l2 l3 l4 l5 l6 l7 : Option Value) (y8 : Value) (r : List Value) (σ : zk_S) (sz k c : Nat), zk_run E (zk_VT E) M_X10_addRoom (C_X10_addRoom E) P PX K (n + 1) 148 [l0, l1, l2, l3, l4, l5, l6, l7, some y8] r (σ, sz, k, c) = (zk_isr y8 ∧ zk_run E (zk_VT E) M_X10_addRoom (C_X10_addRoom E) P PX K n 150 [l0, l1, l2, l3, l4, l5, l6, l7, some y8] (y8 :: r) (σ, sz, k, c))) ∧
  (∀ (n : Nat) (l0 l1 l2 l3 l4 l5 l6 l7 l8 : Option Value) (a : Nat) (i : Int32) (r : List Value) (σ : zk_S) (sz k c : Nat), zk_run E (zk_VT E) M_X10_addRoom (C_X10_addRoom E) P PX K (n + 1) 150 [l0, l1, l2, l3, l4, l5, l6, l7, l8] (.null :: .int i :: .ref a :: r) (σ, sz, k, c) = zk_qsn (zk_view E σ a) i [zk_ar E 3, zk_ar E 4, zk_ar E 5, zk_ar E 6] (fun e => zk_wrok E σ a e ∧ zk_run E (zk_VT E) M_X10_addRoom (C_X10_addRoom E) P PX K n 151 [l0, l1, l2, l3, l4, l5, l6, l7, l8] r (zk_wr E σ a e, sz, k, c))) ∧
  (∀ (n : Nat) (l0 l1 l2 l3 l4 l5 l6 l7 l8 : Option Value) (a v : Nat) (i : Int32) (r : List Value) (σ : zk_S) (sz k c : Nat), zk_run E (zk_VT E) M_X10_addRoom (C_X10_addRoom E) P PX K (n + 1) 150 [l0, l1, l2, l3, l4, l5, l6, l7, l8] (.ref v :: .int i :: .ref a :: r) (σ, sz, k, c) = zk_qst E (zk_view E σ a) (zk_view E σ v) i v (fun e => zk_wrok E σ a e ∧ zk_run E (zk_VT E) M_X10_addRoom (C_X10_addRoom E) P PX K n 151 [l0, l1, l2, l3, l4, l5, l6, l7, l8] r (zk_wr E σ a e, sz, k, c))) ∧
  (∀ (n : Nat) (l1 l2 l3 l4 l5 l6 l7 l8 : Option Value) (y0 : Value) (r : List Value) (σ : zk_S) (sz k c : Nat), zk_run E (zk_VT E) M_X10_addRoom (C_X10_addRoom E) P PX K (n + 1) 151 [some y0, l1, l2, l3, l4, l5, l6, l7, l8] r (σ, sz, k, c) = (zk_isr y0 ∧ zk_run E (zk_VT E) M_X10_addRoom (C_X10_addRoom E) P PX K n 152 [some y0, l1, l2, l3, l4, l5, l6, l7, l8] (y0 :: r) (σ, sz, k, c))) ∧
  (∀ (n : Nat) (l0 l1 l2 l3 l4 l5 l6 l7 l8 : Option Value) (a : Nat) (r : List Value) (σ : zk_S) (sz k c : Nat), zk_run E (zk_VT E) M_X10_addRoom (C_X10_addRoom E) P PX K (n + 1) 152 [l0, l1, l2, l3, l4, l5, l6, l7, l8] (.ref a :: r) (σ, sz, k, c) = zk_fld (zk_view E σ a) [9] 0 (fun v => zk_run E (zk_VT E) M_X10_addRoom (C_X10_addRoom E) P PX K n 155 [l0, l1, l2, l3, l4, l5, l6, l7, l8] (v :: r) (σ, sz, k, c))) ∧
  (∀ (n : Nat) (l0 l1 l2 l3 l4 l5 l6 l8 : Option Value) (y7 : Int32) (r : List Value) (σ : zk_S) (sz k c : Nat), zk_run E (zk_VT E) M_X10_addRoom (C_X10_addRoom E) P PX K (n + 1) 155 [l0, l1, l2, l3, l4, l5, l6, some (.int y7), l8] r (σ, sz, k, c) = zk_run E (zk_VT E) M_X10_addRoom (C_X10_addRoom E) P PX K n 157 [l0, l1, l2, l3, l4, l5, l6, some (.int y7), l8] (.int y7 :: r) (σ, sz, k, c)) ∧
  (∀ (n : Nat) (l0 l1 l2 l3 l4 l5 l6 l7 l8 : Option Value)  (r : List Value) (σ : zk_S) (sz k c : Nat), zk_run E (zk_VT E) M_X10_addRoom (C_X10_addRoom E) P PX K (n + 1) 157 [l0, l1, l2, l3, l4, l5, l6, l7, l8] r (σ, sz, k, c) = zk_run E (zk_VT E) M_X10_addRoom (C_X10_addRoom E) P PX K n 158 [l0, l1, l2, l3, l4, l5, l6, l7, l8] (.int (1) :: r) (σ, sz, k, c)) ∧
  (∀ (n : Nat) (l0 l1 l2 l3 l4 l5 l6 l7 l8 : Option Value) (x y : Int32) (r : List Value) (σ : zk_S) (sz k c : Nat), zk_run E (zk_VT E) M_X10_addRoom (C_X10_addRoom E) P PX K (n + 1) 158 [l0, l1, l2, l3, l4, l5, l6, l7, l8] (.int y :: .int x :: r) (σ, sz, k, c) = zk_run E (zk_VT E) M_X10_addRoom (C_X10_addRoom E) P PX K n 159 [l0, l1, l2, l3, l4, l5, l6, l7, l8] (.int (x + y) :: r) (σ, sz, k, c)) ∧
  (∀ (n : Nat) (l0 l1 l2 l3 l4 l5 l6 l7 l8 : Option Value) (a : Nat) (v : Value) (r : List Value) (σ : zk_S) (sz k c : Nat), zk_run E (zk_VT E) M_X10_addRoom (C_X10_addRoom E) P PX K (n + 1) 159 [l0, l1, l2, l3, l4, l5, l6, l7, l8] (v :: .ref a :: r) (σ, sz, k, c) = zk_put (zk_view E σ a) [4] 5 0 v (zk_pfok E σ a 5 v ∧ zk_run E (zk_VT E) M_X10_addRoom (C_X10_addRoom E) P PX K n 162 [l0, l1, l2, l3, l4, l5, l6, l7, l8] r (zk_pf E σ a 5 v, sz, k, c))) ∧
  (∀ (n : Nat) (l1 l2 l3 l4 l5 l6 l7 l8 : Option Value) (y0 : Value) (r : List Value) (σ : zk_S) (sz k c : Nat), zk_run E (zk_VT E) M_X10_addRoom (C_X10_addRoom E) P PX K (n + 1) 162 [some y0, l1, l2, l3, l4, l5, l6, l7, l8] r (σ, sz, k, c) = (zk_isr y0 ∧ zk_run E (zk_VT E) M_X10_addRoom (C_X10_addRoom E) P PX K n 163 [some y0, l1, l2, l3, l4, l5, l6, l7, l8] (y0 :: r) (σ, sz, k, c))) ∧
  (∀ (n : Nat) (l0 l1 l2 l3 l4 l5 l6 l7 l8 : Option Value)  (r : List Value) (σ : zk_S) (sz k c : Nat), zk_run E (zk_VT E) M_X10_addRoom (C_X10_addRoom E) P PX K (n + 1) 163 [l0, l1, l2, l3, l4, l5, l6, l7, l8] r (σ, sz, k, c) = zk_run E (zk_VT E) M_X10_addRoom (C_X10_addRoom E) P PX K n 164 [l0, l1, l2, l3, l4, l5, l6, l7, l8] (.int (0) :: r) (σ, sz, k, c)) ∧
  (∀ (n : Nat) (l0 l1 l2 l3 l4 l5 l6 l7 l8 : Option Value) (a : Nat) (v : Value) (r : List Value) (σ : zk_S) (sz k c : Nat), zk_run E (zk_VT E) M_X10_addRoom (C_X10_addRoom E) P PX K (n + 1) 164 [l0, l1, l2, l3, l4, l5, l6, l7, l8] (v :: .ref a :: r) (σ, sz, k, c) = zk_put (zk_view E σ a) [9] 4 1 v (zk_pfok E σ a 4 v ∧ zk_run E (zk_VT E) M_X10_addRoom (C_X10_addRoom E) P PX K n 167 [l0, l1, l2, l3, l4, l5, l6, l7, l8] r (zk_pf E σ a 4 v, sz, k, c))) ∧
  (∀ (n : Nat) (l0 l1 l2 l3 l4 l5 l6 l8 : Option Value) (y7 : Int32) (r : List Value) (σ : zk_S) (sz k c : Nat), zk_run E (zk_VT E) M_X10_addRoom (C_X10_addRoom E) P PX K (n + 1) 167 [l0, l1, l2, l3, l4, l5, l6, some (.int y7), l8] r (σ, sz, k, c) = zk_run E (zk_VT E) M_X10_addRoom (C_X10_addRoom E) P PX K n 169 [l0, l1, l2, l3, l4, l5, l6, some (.int y7), l8] (.int y7 :: r) (σ, sz, k, c)) ∧
  (∀ (n : Nat) (l0 l1 l2 l3 l4 l5 l6 l7 l8 : Option Value) (x : Int32)  (σ : zk_S) (sz k c : Nat), zk_run E (zk_VT E) M_X10_addRoom (C_X10_addRoom E) P PX K (n + 1) 169 [l0, l1, l2, l3, l4, l5, l6, l7, l8] [.int x] (σ, sz, k, c) = (zk_nok (some (.int)) x ∧ P (some (.int x)) σ sz ∧ k ≤ 4 ∧ c ≤ 26)) ∧
  (∀ (n : Nat) (l0 l1 l2 l3 l4 l5 l6 l7 l8 : Option Value) (r : List Value) (w : zk_W zk_S), zk_go E (zk_VT E) M_X10_addRoom (C_X10_addRoom E) P PX K n 0 [l0, l1, l2, l3, l4, l5, l6, l7, l8] r w = zk_run E (zk_VT E) M_X10_addRoom (C_X10_addRoom E) P PX K (n + 1) 0 [l0, l1, l2, l3, l4, l5, l6, l7, l8] r w) := ⟨by intros; rfl, by intros; rfl, by intros; rfl, by intros; rfl, by intros; rfl, by intros; rfl, by intros; rfl, by intros; rfl, by intros; rfl, by intros; rfl, by intros; rfl, by intros; rfl, by intros; rfl, by intros; rfl, by intros; rfl, by intros; rfl, by intros; rfl, by intros; rfl, by intros; rfl, by intros; rfl, by intros; rfl, by intros; rfl, by intros; rfl, by intros; rfl, by intros; rfl, by intros; rfl, by intros; rfl, by intros; rfl, by intros; rfl, by intros; rfl, by intros; rfl, by intros; rfl, by intros; rfl, by intros; rfl, by intros; rfl⟩
theorem vc_X10_addRoom (E : zk_E) : zk_VC E (zk_VT E) M_X10_addRoom (C_X10_addRoom E) 9 (sp_X10_addRoom E) := by
  intro av σ sz P PX h
  obtain ⟨J, N, Q, O, U⟩ := σ
  unfold sp_X10_addRoom at h
  split at h
  case h_2 => exact h.elim
  rename_i a0 fl x y w hh u
  obtain ⟨rfl, h⟩ := h
  refine ⟨Nat.le_of_ble_eq_true rfl, fun G hG => ?_⟩
  change G 0 [some (.ref (zk_ad E 0)), some (.int fl), some (.int x), some (.int y), some (.int w), some (.int hh), some (.int u), none, none] [] ((J, N, Q, O, U), sz, 0, 0)
  try dsimp only at h
  obtain ⟨hsz, J1, N1, ⟨hmi, hxr, hrk⟩, h1, h2, h3⟩ := h
  have hnr := hmi.1.1.1
  have hnr20 := hmi.1.1.2
  have e5 : J 1 5 = nI (m_nr J1) := hxr.1.1.trans hnr
  unfold c_room at h1 h2 h3
  rw [m_okR_st] at h1 h2 h3
  cases q1 : m_isIn fl 0 2 with
  | false =>
    rw [q1] at h1
    (refine hG 900 _ _ _ _ ?_; simp only [r_X10_addRoom, r_X10_addRoom_1, spe_X10_isWithin, q1, zk_b0, Bool.true_eq_false])
    exact fun z2 hz => h1 rfl O z2 hz (fun _ _ => rfl)
  | true =>
    cases q2 : m_isIn u 0 3 with
    | false =>
      rw [q1, q2] at h1
      (refine hG 900 _ _ _ _ ?_; simp only [r_X10_addRoom, r_X10_addRoom_1, spe_X10_isWithin, q1, q2, zk_b0, Bool.true_eq_false])
      exact fun z2 hz => h1 rfl O z2 hz (fun _ _ => rfl)
    | true =>
      cases q3 : m_isIn x 0 60 with
      | false =>
        rw [q1, q2, q3] at h1
        (refine hG 900 _ _ _ _ ?_; simp only [r_X10_addRoom, r_X10_addRoom_1, spe_X10_isWithin, q1, q2, q3, zk_b0, Bool.true_eq_false])
        exact fun z2 hz => h1 rfl O z2 hz (fun _ _ => rfl)
      | true =>
        cases q4 : m_isIn y 0 60 with
        | false =>
          rw [q1, q2, q3, q4] at h1
          (refine hG 900 _ _ _ _ ?_; simp only [r_X10_addRoom, r_X10_addRoom_1, spe_X10_isWithin, q1, q2, q3, q4, zk_b0, Bool.true_eq_false])
          exact fun z2 hz => h1 rfl O z2 hz (fun _ _ => rfl)
        | true =>
          cases q5 : m_isIn w 1 30 with
          | false =>
            rw [q1, q2, q3, q4, q5] at h1
            (refine hG 900 _ _ _ _ ?_; simp only [r_X10_addRoom, r_X10_addRoom_1, spe_X10_isWithin, q1, q2, q3, q4, q5, zk_b0, Bool.true_eq_false])
            exact fun z2 hz => h1 rfl O z2 hz (fun _ _ => rfl)
          | true =>
            cases q6 : m_isIn hh 1 30 with
            | false =>
              rw [q1, q2, q3, q4, q5, q6] at h1
              (refine hG 900 _ _ _ _ ?_; simp only [r_X10_addRoom, r_X10_addRoom_1, spe_X10_isWithin, q1, q2, q3, q4, q5, q6, zk_b0, Bool.true_eq_false])
              exact fun z2 hz => h1 rfl O z2 hz (fun _ _ => rfl)
            | true =>
              rw [q1, q2, q3, q4, q5, q6, if_neg (by decide)] at h2 h3
              have nfl : ¬ fl = -2 := fun w => by rw [w] at q1; revert q1; decide
              by_cases q7 : m_nr J1 = 20
              · rw [if_pos q7] at h2
                have c1 : ¬ nI (m_nr J1) < (20 : Int32) := (nI_nlt (b := 20) (by omega) (by omega) : ¬ nI (m_nr J1) < nI 20)
                (refine hG 900 _ _ _ _ ?_; simp only [r_X10_addRoom, r_X10_addRoom_1, spe_X10_isWithin, q1, q2, q3, q4, q5, q6, zk_b0, Bool.true_eq_false, e5, c1])
                exact fun z2 hz => h2 rfl O z2 hz (fun _ _ => rfl)
              · rw [if_neg q7] at h2 h3
                have c1 : nI (m_nr J1) < (20 : Int32) := (nI_lt (b := 20) (by omega) (by decide) : nI (m_nr J1) < nI 20)
                have en : zk_new 5 = [.int 0, .int 0, .int 0, .int 0, .int 0, .int 0, .int 0, .int 0] := rfl
                have hxg := hxr.grow (O2 := zk_up O sz (cR (nI (m_nr J1)) fl x y w hh u 0)) (U2 := U) (sz2 := sz + 1) (fun q hq => zk_up_ne _ _ (by omega)) (by omega)
                have hrok : ROK E Q (zk_up O sz (cR (nI (m_nr J1)) fl x y w hh u 0)) := hxg.2.1.rok
                have hRs : isR (zk_up O sz (cR (nI (m_nr J1)) fl x y w hh u 0) sz) := by rw [zk_up_same]; exact ⟨_, _, _, _, _, _, _, _, rfl⟩
                have hhit : m_ex (r_hit Q (zk_up O sz (cR (nI (m_nr J1)) fl x y w hh u 0)) (zk_up O sz (cR (nI (m_nr J1)) fl x y w hh u 0) sz)) 20 = m_ex (m_hit N1 fl x y w hh) (m_nr J1) := by rw [zk_up_same]; exact hxg.hit hmi nfl
                cases q8 : m_ex (m_hit N1 fl x y w hh) (m_nr J1) with
                | true =>
                  rw [if_pos q8] at h2
                  rw [q8] at hhit
                  (refine hG 900 _ _ _ _ ?_; simp only [r_X10_addRoom, r_X10_addRoom_1, spe_X10_isWithin, q1, q2, q3, q4, q5, q6, zk_b0, Bool.true_eq_false, e5, c1, en, zk_wd _ hsz, zk_wod _ hsz, spe_X6_init, hsz])
                  refine ⟨O, rfl, ?_⟩
                  simp only [r_X10_addRoom, r_X10_addRoom_1, spe_X5_isInTheWay, hrok, hsz, hRs, hhit, zk_b0, Bool.true_eq_false]
                  exact fun z2 hz => h2 rfl _ z2 (by omega) (fun q hq => zk_up_ne _ _ (by omega))
                | false =>
                  rw [if_neg (by rw [q8]; decide)] at h3
                  rw [q8] at hhit
                  have hin : vp_in (nI (m_nr J1)) 20 := n_in (by omega) (by decide)
                  have hcls : (nI (m_nr J1)).toNatClampNeg = m_nr J1 := n_cl (by omega)
                  have hx2 := hxg.addR hmi (by omega) (a := sz) ⟨hsz, by omega⟩ nfl (zk_up_same _ _ _) (J2 := zk_uj (zk_uj J 1 5 (nI (m_nr J1 + 1))) 0 4 0) (by rw [e5, n_succ]; rfl) rfl rfl rfl
                  have h := h3 rfl _ _ _ _ _ (Nat.le_succ sz) rfl (fun o ho => by rw [uj_22 (by decide) o ho, uj_22 (by decide) o ho]) (fun _ _ => rfl) ⟨un_22 (by decide), fun q hq _ => zk_up_ne _ _ (by omega)⟩ hx2
                  (refine hG 900 _ _ _ _ ?_; simp only [r_X10_addRoom, r_X10_addRoom_1, spe_X10_isWithin, q1, q2, q3, q4, q5, q6, zk_b0, Bool.true_eq_false, e5, c1, en, zk_wd _ hsz, zk_wod _ hsz, spe_X6_init, hsz])
                  refine ⟨O, rfl, ?_⟩
                  simp only [r_X10_addRoom, r_X10_addRoom_1, spe_X5_isInTheWay, hrok, hsz, hRs, hhit, zk_b0, Bool.true_eq_false, Bool.false_eq_true]
                  unfold cR
                  simp only [r_X10_addRoom, r_X10_addRoom_1, hin, hcls, n_succ, zk_vd hsz, zk_up_same]
                  exact h
theorem ct_X10_addRoom {l : Launch} (hl : l.stackTraces = false) (E : zk_E) : zk_C l E (zk_VT E) yX10_addRoom cX10_addRoom 9 (some (.int)) rm_X10_addRoom (sp_X10_addRoom E) := by
  refine zk_meth (M := M_X10_addRoom) (C := C_X10_addRoom E) hl (by decide +kernel) rfl (fun _ _ => rfl) (zk_VT_ok E) MO_X10_addRoom TO_X10_addRoom THo_X10_addRoom ?_ (vc_X10_addRoom E)
  exact fun p e s m args below meth c X pc n mc ms sp2 h => by
    have h2 := zk_lka_mem h
    simp only [List.mem_cons, List.not_mem_nil, or_false, Prod.mk.injEq] at h2
    rcases h2 with ⟨rfl, rfl, rfl, rfl, rfl⟩ | ⟨rfl, rfl, rfl, rfl, rfl⟩ | ⟨rfl, rfl, rfl, rfl, rfl⟩ | ⟨rfl, rfl, rfl, rfl, rfl⟩ | ⟨rfl, rfl, rfl, rfl, rfl⟩ | ⟨rfl, rfl, rfl, rfl, rfl⟩ | ⟨rfl, rfl, rfl, rfl, rfl⟩ | ⟨rfl, rfl, rfl, rfl, rfl⟩
    · exact zk_coS (idx := 41) X (ct_X10_isWithin hl E) (List.forall_mem_cons.mpr ⟨zk_wi 28 (by decide +kernel) rfl, List.forall_mem_cons.mpr ⟨zk_wi 29 (by decide +kernel) rfl, List.forall_mem_cons.mpr ⟨zk_wi 2 (by decide +kernel) rfl, List.forall_mem_cons.mpr ⟨zk_wi 30 (by decide +kernel) rfl, fun _ h => absurd h List.not_mem_nil⟩⟩⟩⟩) (by decide +kernel) ⟨by decide, by decide, by decide +kernel⟩ ⟨by decide, by decide⟩
    · exact zk_coS (idx := 41) X (ct_X10_isWithin hl E) (List.forall_mem_cons.mpr ⟨zk_wi 28 (by decide +kernel) rfl, List.forall_mem_cons.mpr ⟨zk_wi 29 (by decide +kernel) rfl, List.forall_mem_cons.mpr ⟨zk_wi 2 (by decide +kernel) rfl, List.forall_mem_cons.mpr ⟨zk_wi 30 (by decide +kernel) rfl, fun _ h => absurd h List.not_mem_nil⟩⟩⟩⟩) (by decide +kernel) ⟨by decide, by decide, by decide +kernel⟩ ⟨by decide, by decide⟩
    · exact zk_coS (idx := 41) X (ct_X10_isWithin hl E) (List.forall_mem_cons.mpr ⟨zk_wi 28 (by decide +kernel) rfl, List.forall_mem_cons.mpr ⟨zk_wi 29 (by decide +kernel) rfl, List.forall_mem_cons.mpr ⟨zk_wi 2 (by decide +kernel) rfl, List.forall_mem_cons.mpr ⟨zk_wi 30 (by decide +kernel) rfl, fun _ h => absurd h List.not_mem_nil⟩⟩⟩⟩) (by decide +kernel) ⟨by decide, by decide, by decide +kernel⟩ ⟨by decide, by decide⟩
    · exact zk_coS (idx := 41) X (ct_X10_isWithin hl E) (List.forall_mem_cons.mpr ⟨zk_wi 28 (by decide +kernel) rfl, List.forall_mem_cons.mpr ⟨zk_wi 29 (by decide +kernel) rfl, List.forall_mem_cons.mpr ⟨zk_wi 2 (by decide +kernel) rfl, List.forall_mem_cons.mpr ⟨zk_wi 30 (by decide +kernel) rfl, fun _ h => absurd h List.not_mem_nil⟩⟩⟩⟩) (by decide +kernel) ⟨by decide, by decide, by decide +kernel⟩ ⟨by decide, by decide⟩
    · exact zk_coS (idx := 41) X (ct_X10_isWithin hl E) (List.forall_mem_cons.mpr ⟨zk_wi 28 (by decide +kernel) rfl, List.forall_mem_cons.mpr ⟨zk_wi 29 (by decide +kernel) rfl, List.forall_mem_cons.mpr ⟨zk_wi 2 (by decide +kernel) rfl, List.forall_mem_cons.mpr ⟨zk_wi 30 (by decide +kernel) rfl, fun _ h => absurd h List.not_mem_nil⟩⟩⟩⟩) (by decide +kernel) ⟨by decide, by decide, by decide +kernel⟩ ⟨by decide, by decide⟩
    · exact zk_coS (idx := 41) X (ct_X10_isWithin hl E) (List.forall_mem_cons.mpr ⟨zk_wi 28 (by decide +kernel) rfl, List.forall_mem_cons.mpr ⟨zk_wi 29 (by decide +kernel) rfl, List.forall_mem_cons.mpr ⟨zk_wi 2 (by decide +kernel) rfl, List.forall_mem_cons.mpr ⟨zk_wi 30 (by decide +kernel) rfl, fun _ h => absurd h List.not_mem_nil⟩⟩⟩⟩) (by decide +kernel) ⟨by decide, by decide, by decide +kernel⟩ ⟨by decide, by decide⟩
    · exact zk_coI (idx := 63) X (ct_X6_init hl E) (List.forall_mem_cons.mpr ⟨zk_wi 669 (by decide +kernel) rfl, List.forall_mem_cons.mpr ⟨zk_wi 670 (by decide +kernel) rfl, List.forall_mem_cons.mpr ⟨zk_wi 12 (by decide +kernel) rfl, List.forall_mem_cons.mpr ⟨zk_wi 671 (by decide +kernel) rfl, fun _ h => absurd h List.not_mem_nil⟩⟩⟩⟩) rfl (by decide +kernel) ⟨by decide, by decide, by decide +kernel⟩ ⟨by decide, by decide⟩
    · exact zk_coV (idx := 66) X (ct_X5_isInTheWay hl E) (List.forall_mem_cons.mpr ⟨zk_wi 717 (by decide +kernel) rfl, List.forall_mem_cons.mpr ⟨zk_wi 718 (by decide +kernel) rfl, List.forall_mem_cons.mpr ⟨zk_wi 719 (by decide +kernel) rfl, List.forall_mem_cons.mpr ⟨zk_wi 3 (by decide +kernel) rfl, List.forall_mem_cons.mpr ⟨zk_wi 720 (by decide +kernel) rfl, fun _ h => absurd h List.not_mem_nil⟩⟩⟩⟩⟩) (fun ci h => by
      have h := Nat.eq_of_beq_eq_true h
      subst h
      exact ⟨_, _, rfl⟩) (by decide +kernel) ⟨by decide, by decide, by decide +kernel⟩ ⟨by decide, by decide⟩


