/-! the class: addDoor -/
section XRS
variable {E : zk_E} {sz : Nat} {J N J1 N1 : Nat → Nat → Int32} {Q : Nat → Nat → Option Nat} {O : zk_Hp} {U : zk_U}
theorem XR.addD (h : XR E sz (J1, N1, Q, O, U) J N (fl0 N)) (hmi : MI J N) (hn : m_nd J < 40) {a p j : Nat} {o x y up w : Int32} {oo : Option Nat} (hj : MR J N j) (ho : o = -1 ∨ ∃ k, MR J N k ∧ o = nI k) (hoo : rq Q o = oo) (hup : up = 0 ∨ up = 1) (ha : OKA E sz a) (hp : OKA E sz p) (hfr : ∀ d, d < 40 → Q 3 d ≠ some a)
    (hO : O a = some (cX 1 (Q 2 j) oo (p_mx (some (cP (N 23 j) up (p_line up x y) (p_start up x y) w))) (p_my (some (cP (N 23 j) up (p_line up x y) (p_start up x y) w))) 0 (w * 2) 0 [.ref p])) (hOp : O p = some (cP (N 23 j) up (p_line up x y) (p_start up x y) w)) {J2 : Nat → Nat → Int32} (e5 : J2 1 5 = J1 1 5) (e6 : J2 1 6 = J1 1 6 + 1) (e7 : J2 1 7 = J1 1 7) (e8 : J2 1 8 = J1 1 8) : XR E sz (J2, N1, zk_un Q 3 (va_up (Q 3) (m_nd J) (some a)), O, U) (uJ_door J) (uN_door N (m_nd J) (nI j) o x y up w) (fl0 (uN_door N (m_nd J) (nI j) o x y up w)) := by
  have hj20 := hj.lt hmi
  have hnd := hmi.1.2.1.1
  have h36 := hmi.2.2.2.2.2.2 (m_nd J) (Nat.le_refl _) hn
  have em : m_nd (uJ_door J) = m_nd J + 1 := by
    have : m_nd (uJ_door J) = (J 22 9 + 1).toNatClampNeg := rfl
    rw [this, hnd, n_succ, n_cl (by omega)]
  obtain ⟨⟨a1, a2, a3, a4, a5⟩, hB, hC, hD, hT, hG⟩ := h
  have hC : XC E sz Q O J N (fl0 N) := hC
  have hG : XG Q := hG
  refine ⟨⟨?_, ?_, ?_, ?_, a5⟩, hB, ?_, hD, hT, ?_⟩
  · show J2 1 5 = J 22 1; rw [e5]; exact a1
  · show J2 1 6 = J 22 9 + 1; rw [e6, show J1 1 6 = J 22 9 from a2]
  · show J2 1 7 = J 22 17; rw [e7]; exact a3
  · show J2 1 8 = J 22 23; rw [e8]; exact a4
  · intro d hd
    generalize eN : uN_door N (m_nd J) (nI j) o x y up w = N2
    have n23 : N2 23 = N 23 := by rw [← eN]; rfl
    have n30 : N2 30 = upd (N 30) (m_nd J) (nI j) := by rw [← eN]; rfl
    have n31 : N2 31 = upd (N 31) (m_nd J) o := by rw [← eN]; rfl
    have n32 : N2 32 = upd (N 32) (m_nd J) x := by rw [← eN]; rfl
    have n33 : N2 33 = upd (N 33) (m_nd J) y := by rw [← eN]; rfl
    have n34 : N2 34 = upd (N 34) (m_nd J) w := by rw [← eN]; rfl
    have n35 : N2 35 = upd (N 35) (m_nd J) up := by rw [← eN]; rfl
    have n36 : N2 36 = N 36 := by rw [← eN]; rfl
    clear eN
    have rqs : ∀ z, rq (zk_un Q 3 (va_up (Q 3) (m_nd J) (some a))) z = rq Q z := fun z => rfl
    show (∃ a' p, MD (uJ_door J) N2 d ∧ va_up (Q 3) (m_nd J) (some a) d = some a' ∧ OKA E sz a' ∧ OKA E sz p ∧ O a' = some (xdr N2 (zk_un Q 3 (va_up (Q 3) (m_nd J) (some a))) (fl0 N2) d p) ∧ O p = some (xdp N2 d)) ∨ (¬ MD (uJ_door J) N2 d ∧ va_up (Q 3) (m_nd J) (some a) d = none)
    by_cases z : d = m_nd J
    · subst z
      refine Or.inl ⟨a, p, ⟨by rw [em]; omega, by rw [n30, upd_self]; exact nI_ne2 (by omega)⟩, vaup_self _ _ _, ha, hp, hO.trans ?_, hOp.trans ?_⟩
      · have rj : rq Q (nI j) = Q 2 j := by
          unfold rq
          rw [if_neg (nI_ne1 (by omega)), n_cl (by omega)]
        unfold xdr m_px m_py fl0
        rw [(d2e (m_nd J)).1]
        simp only [if_pos hd]
        rw [rqs, rqs, n30, n31, n32, n33, n34, n35, n36, upd_self, upd_self, upd_self, upd_self, upd_self, upd_self, rj, hoo, h36]
        unfold p_mx p_my
        simp only [fI_P]
        unfold p_line p_start
        rcases hup with rfl | rfl
        · simp
        · have n10 : ¬ (1 : Int32) = 0 := by decide
          simp [n10]
      · unfold xdp
        rw [n23, n30, n32, n33, n34, n35, upd_self, upd_self, upd_self, upd_self, upd_self, n_cl (by omega)]
    · have em2 : MD (uJ_door J) N2 d = MD J N d := by
        unfold MD
        rw [em, n30, upd_ne _ _ z]
        apply propext
        constructor
        · rintro ⟨z1, z2⟩; exact ⟨by omega, z2⟩
        · rintro ⟨z1, z2⟩; exact ⟨by omega, z2⟩
      rw [em2, vaup_ne _ _ z]
      rcases hC d hd with ⟨a', p, b1, b2, b3, b4, b5, b6⟩ | w2
      · refine Or.inl ⟨a', p, b1, b2, b3, b4, b5.trans ?_, b6.trans ?_⟩
        · unfold xdr m_px m_py fl0
          rw [(d2e d).1]
          simp only [if_pos hd]
          rw [rqs, rqs, n30, n31, n32, n33, n34, n35, n36, upd_ne _ _ z, upd_ne _ _ z, upd_ne _ _ z, upd_ne _ _ z, upd_ne _ _ z, upd_ne _ _ z]
        · unfold xdp
          rw [n23, n30, n32, n33, n34, n35, upd_ne _ _ z, upd_ne _ _ z, upd_ne _ _ z, upd_ne _ _ z, upd_ne _ _ z]
      · exact Or.inr w2
  · intro d d2 a' hd hd2 q1 q2
    have q1 : va_up (Q 3) (m_nd J) (some a) d = some a' := q1
    have q2 : va_up (Q 3) (m_nd J) (some a) d2 = some a' := q2
    by_cases z : d = m_nd J
    · by_cases z2 : d2 = m_nd J
      · rw [z, z2]
      · rw [z, vaup_self] at q1
        rw [vaup_ne _ _ z2] at q2
        cases q1
        exact absurd q2 (hfr d2 hd2)
    · rw [vaup_ne _ _ z] at q1
      by_cases z2 : d2 = m_nd J
      · rw [z2, vaup_self] at q2
        cases q2
        exact absurd q1 (hfr d hd)
      · rw [vaup_ne _ _ z2] at q2
        exact hG d d2 a' hd hd2 q1 q2
end XRS
def sp_X10_addDoor (E : zk_E) : zk_Sp zk_S := fun av σ sz P PX => match av with
  | [.ref a, .int r, .int o, .int x, .int y, .int up, .int w] => a = zk_ad E 0 ∧ E.1 + 28 ≤ sz ∧ (up = 0 ∨ up = 1) ∧ ∃ J N, IC E sz σ J N ∧ RD J N r (fun j => OD J N o ((c_door J N j o x y up w = 2 → ZY σ sz "java/lang/IllegalArgumentException" PX) ∧ (c_door J N j o x y up w = 3 → ZY σ sz "java/lang/IllegalStateException" PX) ∧ (c_door J N j o x y up w = 0 → ZM E σ sz (uJ_door J) (uN_door N (m_nd J) r o x y up w) (some (.int (nI (m_nd J)))) P)) (ZY σ sz "java/lang/IndexOutOfBoundsException" PX)) (ZY σ sz "java/lang/IndexOutOfBoundsException" PX)
  | _ => False
theorem spe_X10_addDoor (E : zk_E) (a : Nat) (r : Int32) (o : Int32) (x : Int32) (y : Int32) (up : Int32) (w : Int32) (σ : zk_S) (sz : Nat) (P : zk_P zk_S) (PX : zk_X zk_S) : sp_X10_addDoor E [.ref a, .int r, .int o, .int x, .int y, .int up, .int w] σ sz P PX = (a = zk_ad E 0 ∧ E.1 + 28 ≤ sz ∧ (up = 0 ∨ up = 1) ∧ ∃ J N, IC E sz σ J N ∧ RD J N r (fun j => OD J N o ((c_door J N j o x y up w = 2 → ZY σ sz "java/lang/IllegalArgumentException" PX) ∧ (c_door J N j o x y up w = 3 → ZY σ sz "java/lang/IllegalStateException" PX) ∧ (c_door J N j o x y up w = 0 → ZM E σ sz (uJ_door J) (uN_door N (m_nd J) r o x y up w) (some (.int (nI (m_nd J)))) P)) (ZY σ sz "java/lang/IndexOutOfBoundsException" PX)) (ZY σ sz "java/lang/IndexOutOfBoundsException" PX)) := propext Iff.rfl
def C_X10_addDoor (E : zk_E) : zk_Cl zk_S := zk_lka [(2, 2, 1, 6, zk_rv (zk_VT E) (fun ci => Nat.beq ci 9) (sp_X10_roomThere E)), (18, 2, 1, 6, zk_rv (zk_VT E) (fun ci => Nat.beq ci 9) (sp_X10_roomThere E)), (28, 3, 0, 0, sp_X10_isWithin E), (38, 2, 0, 0, sp_X10_canBeJoined E), (96, 6, 0, 0, zk_ri (sp_X4_init E)), (111, 4, 0, 0, zk_rv (zk_VT E) (fun ci => Nat.beq ci 4) (sp_X5_hasPlaceFor E)), (146, 4, 0, 0, zk_ri (sp_X1_init E))]
theorem r_X10_addDoor (E : zk_E) (P : zk_P zk_S) (PX : zk_X zk_S) (K : Nat → zk_L → List Value → zk_W zk_S → Prop) : (∀ (n : Nat) (l1 l2 l3 l4 l5 l6 l7 l8 l9 l10 : Option Value) (y0 : Value) (r : List Value) (σ : zk_S) (sz k c : Nat), zk_run E (zk_VT E) M_X10_addDoor (C_X10_addDoor E) P PX K (n + 1) 0 [some y0, l1, l2, l3, l4, l5, l6, l7, l8, l9, l10] r (σ, sz, k, c) = (zk_isr y0 ∧ zk_run E (zk_VT E) M_X10_addDoor (C_X10_addDoor E) P PX K n 1 [some y0, l1, l2, l3, l4, l5, l6, l7, l8, l9, l10] (y0 :: r) (σ, sz, k, c))) ∧
  (∀ (n : Nat) (l0 l2 l3 l4 l5 l6 l7 l8 l9 l10 : Option Value) (y1 : Int32) (r : List Value) (σ : zk_S) (sz k c : Nat), zk_run E (zk_VT E) M_X10_addDoor (C_X10_addDoor E) P PX K (n + 1) 1 [l0, some (.int y1), l2, l3, l4, l5, l6, l7, l8, l9, l10] r (σ, sz, k, c) = zk_run E (zk_VT E) M_X10_addDoor (C_X10_addDoor E) P PX K n 2 [l0, some (.int y1), l2, l3, l4, l5, l6, l7, l8, l9, l10] (.int y1 :: r) (σ, sz, k, c)) ∧
  (∀ (n : Nat) (l0 l1 l2 l3 l4 l5 l6 l7 l8 l9 l10 : Option Value) (v0 : Value) (v1 : Value)  (σ : zk_S) (sz k c : Nat), zk_run E (zk_VT E) M_X10_addDoor (C_X10_addDoor E) P PX K (n + 1) 2 [l0, l1, l2, l3, l4, l5, l6, l7, l8, l9, l10] [v0, v1] (σ, sz, k, c) = (k + 1 ≤ 7 ∧ c + 6 ≤ 43 ∧ (zk_rv (zk_VT E) (fun ci => Nat.beq ci 9) (sp_X10_roomThere E)) [v1, v0] σ sz (fun v s2 z2 => zk_run E (zk_VT E) M_X10_addDoor (C_X10_addDoor E) P PX K n 5 [l0, l1, l2, l3, l4, l5, l6, l7, l8, l9, l10] (zk_psh v []) (s2, z2, k + 1, c + 6)) (fun X s2 z2 => PX X s2 z2))) ∧
  (∀ (n : Nat) (l0 l1 l2 l3 l4 l5 l6 l7 l8 l9 l10 : Option Value) (x : Value) (r : List Value) (σ : zk_S) (sz k c : Nat), zk_run E (zk_VT E) M_X10_addDoor (C_X10_addDoor E) P PX K (n + 1) 5 [l0, l1, l2, l3, l4, l5, l6, l7, l8, l9, l10] (x :: r) (σ, sz, k, c) = (zk_isr x ∧ zk_run E (zk_VT E) M_X10_addDoor (C_X10_addDoor E) P PX K n 7 [l0, l1, l2, l3, l4, l5, zk_kl l6, some (x), l8, l9, l10] r (σ, sz, k, c))) ∧
  (∀ (n : Nat) (l0 l1 l3 l4 l5 l6 l7 l8 l9 l10 : Option Value) (y2 : Int32) (r : List Value) (σ : zk_S) (sz k c : Nat), zk_run E (zk_VT E) M_X10_addDoor (C_X10_addDoor E) P PX K (n + 1) 7 [l0, l1, some (.int y2), l3, l4, l5, l6, l7, l8, l9, l10] r (σ, sz, k, c) = zk_run E (zk_VT E) M_X10_addDoor (C_X10_addDoor E) P PX K n 8 [l0, l1, some (.int y2), l3, l4, l5, l6, l7, l8, l9, l10] (.int y2 :: r) (σ, sz, k, c)) ∧
  (∀ (n : Nat) (l0 l1 l2 l3 l4 l5 l6 l7 l8 l9 l10 : Option Value)  (r : List Value) (σ : zk_S) (sz k c : Nat), zk_run E (zk_VT E) M_X10_addDoor (C_X10_addDoor E) P PX K (n + 1) 8 [l0, l1, l2, l3, l4, l5, l6, l7, l8, l9, l10] r (σ, sz, k, c) = zk_run E (zk_VT E) M_X10_addDoor (C_X10_addDoor E) P PX K n 9 [l0, l1, l2, l3, l4, l5, l6, l7, l8, l9, l10] (.int ((-1)) :: r) (σ, sz, k, c)) ∧
  (∀ (n : Nat) (l0 l1 l2 l3 l4 l5 l6 l7 l8 l9 l10 : Option Value) (x y : Int32) (r : List Value) (σ : zk_S) (sz k c : Nat), zk_run E (zk_VT E) M_X10_addDoor (C_X10_addDoor E) P PX K (n + 1) 9 [l0, l1, l2, l3, l4, l5, l6, l7, l8, l9, l10] (.int y :: .int x :: r) (σ, sz, k, c) = ((¬ x = y → zk_run E (zk_VT E) M_X10_addDoor (C_X10_addDoor E) P PX K n 16 [l0, l1, l2, l3, l4, l5, l6, l7, l8, l9, l10] r (σ, sz, k, c)) ∧ (¬ (¬ x = y) → zk_run E (zk_VT E) M_X10_addDoor (C_X10_addDoor E) P PX K n 12 [l0, l1, l2, l3, l4, l5, l6, l7, l8, l9, l10] r (σ, sz, k, c)))) ∧
  (∀ (n : Nat) (l0 l1 l2 l3 l4 l5 l6 l7 l8 l9 l10 : Option Value)  (r : List Value) (σ : zk_S) (sz k c : Nat), zk_run E (zk_VT E) M_X10_addDoor (C_X10_addDoor E) P PX K (n + 1) 12 [l0, l1, l2, l3, l4, l5, l6, l7, l8, l9, l10] r (σ, sz, k, c) = zk_run E (zk_VT E) M_X10_addDoor (C_X10_addDoor E) P PX K n 13 [l0, l1, l2, l3, l4, l5, l6, l7, l8, l9, l10] (.null :: r) (σ, sz, k, c)) ∧
  (∀ (n : Nat) (l0 l1 l2 l3 l4 l5 l6 l7 l8 l9 l10 : Option Value)  (r : List Value) (σ : zk_S) (sz k c : Nat), zk_run E (zk_VT E) M_X10_addDoor (C_X10_addDoor E) P PX K (n + 1) 13 [l0, l1, l2, l3, l4, l5, l6, l7, l8, l9, l10] r (σ, sz, k, c) = zk_run E (zk_VT E) M_X10_addDoor (C_X10_addDoor E) P PX K n 21 [l0, l1, l2, l3, l4, l5, l6, l7, l8, l9, l10] r (σ, sz, k, c)) ∧
  (∀ (n : Nat) (l1 l2 l3 l4 l5 l6 l7 l8 l9 l10 : Option Value) (y0 : Value) (r : List Value) (σ : zk_S) (sz k c : Nat), zk_run E (zk_VT E) M_X10_addDoor (C_X10_addDoor E) P PX K (n + 1) 16 [some y0, l1, l2, l3, l4, l5, l6, l7, l8, l9, l10] r (σ, sz, k, c) = (zk_isr y0 ∧ zk_run E (zk_VT E) M_X10_addDoor (C_X10_addDoor E) P PX K n 17 [some y0, l1, l2, l3, l4, l5, l6, l7, l8, l9, l10] (y0 :: r) (σ, sz, k, c))) ∧
  (∀ (n : Nat) (l0 l1 l3 l4 l5 l6 l7 l8 l9 l10 : Option Value) (y2 : Int32) (r : List Value) (σ : zk_S) (sz k c : Nat), zk_run E (zk_VT E) M_X10_addDoor (C_X10_addDoor E) P PX K (n + 1) 17 [l0, l1, some (.int y2), l3, l4, l5, l6, l7, l8, l9, l10] r (σ, sz, k, c) = zk_run E (zk_VT E) M_X10_addDoor (C_X10_addDoor E) P PX K n 18 [l0, l1, some (.int y2), l3, l4, l5, l6, l7, l8, l9, l10] (.int y2 :: r) (σ, sz, k, c)) ∧
  (∀ (n : Nat) (l0 l1 l2 l3 l4 l5 l6 l7 l8 l9 l10 : Option Value) (v0 : Value) (v1 : Value)  (σ : zk_S) (sz k c : Nat), zk_run E (zk_VT E) M_X10_addDoor (C_X10_addDoor E) P PX K (n + 1) 18 [l0, l1, l2, l3, l4, l5, l6, l7, l8, l9, l10] [v0, v1] (σ, sz, k, c) = (k + 1 ≤ 7 ∧ c + 6 ≤ 43 ∧ (zk_rv (zk_VT E) (fun ci => Nat.beq ci 9) (sp_X10_roomThere E)) [v1, v0] σ sz (fun v s2 z2 => zk_run E (zk_VT E) M_X10_addDoor (C_X10_addDoor E) P PX K n 21 [l0, l1, l2, l3, l4, l5, l6, l7, l8, l9, l10] (zk_psh v []) (s2, z2, k + 1, c + 6)) (fun X s2 z2 => PX X s2 z2))) ∧
  (∀ (n : Nat) (l0 l1 l2 l3 l4 l5 l6 l7 l8 l9 l10 : Option Value) (x : Value) (r : List Value) (σ : zk_S) (sz k c : Nat), zk_run E (zk_VT E) M_X10_addDoor (C_X10_addDoor E) P PX K (n + 1) 21 [l0, l1, l2, l3, l4, l5, l6, l7, l8, l9, l10] (x :: r) (σ, sz, k, c) = (zk_isr x ∧ zk_run E (zk_VT E) M_X10_addDoor (C_X10_addDoor E) P PX K n 23 [l0, l1, l2, l3, l4, l5, l6, zk_kl l7, some (x), l9, l10] r (σ, sz, k, c))) ∧
  (∀ (n : Nat) (l0 l1 l2 l3 l4 l5 l7 l8 l9 l10 : Option Value) (y6 : Int32) (r : List Value) (σ : zk_S) (sz k c : Nat), zk_run E (zk_VT E) M_X10_addDoor (C_X10_addDoor E) P PX K (n + 1) 23 [l0, l1, l2, l3, l4, l5, some (.int y6), l7, l8, l9, l10] r (σ, sz, k, c) = zk_run E (zk_VT E) M_X10_addDoor (C_X10_addDoor E) P PX K n 25 [l0, l1, l2, l3, l4, l5, some (.int y6), l7, l8, l9, l10] (.int y6 :: r) (σ, sz, k, c)) ∧
  (∀ (n : Nat) (l0 l1 l2 l3 l4 l5 l6 l7 l8 l9 l10 : Option Value)  (r : List Value) (σ : zk_S) (sz k c : Nat), zk_run E (zk_VT E) M_X10_addDoor (C_X10_addDoor E) P PX K (n + 1) 25 [l0, l1, l2, l3, l4, l5, l6, l7, l8, l9, l10] r (σ, sz, k, c) = zk_run E (zk_VT E) M_X10_addDoor (C_X10_addDoor E) P PX K n 26 [l0, l1, l2, l3, l4, l5, l6, l7, l8, l9, l10] (.int (1) :: r) (σ, sz, k, c)) ∧
  (∀ (n : Nat) (l0 l1 l2 l3 l4 l5 l6 l7 l8 l9 l10 : Option Value)  (r : List Value) (σ : zk_S) (sz k c : Nat), zk_run E (zk_VT E) M_X10_addDoor (C_X10_addDoor E) P PX K (n + 1) 26 [l0, l1, l2, l3, l4, l5, l6, l7, l8, l9, l10] r (σ, sz, k, c) = zk_run E (zk_VT E) M_X10_addDoor (C_X10_addDoor E) P PX K n 28 [l0, l1, l2, l3, l4, l5, l6, l7, l8, l9, l10] (.int (6) :: r) (σ, sz, k, c)) ∧
  (∀ (n : Nat) (l0 l1 l2 l3 l4 l5 l6 l7 l8 l9 l10 : Option Value) (v0 : Value) (v1 : Value) (v2 : Value)  (σ : zk_S) (sz k c : Nat), zk_run E (zk_VT E) M_X10_addDoor (C_X10_addDoor E) P PX K (n + 1) 28 [l0, l1, l2, l3, l4, l5, l6, l7, l8, l9, l10] [v0, v1, v2] (σ, sz, k, c) = (k + 0 ≤ 7 ∧ c + 0 ≤ 43 ∧ (sp_X10_isWithin E) [v2, v1, v0] σ sz (fun v s2 z2 => zk_run E (zk_VT E) M_X10_addDoor (C_X10_addDoor E) P PX K n 31 [l0, l1, l2, l3, l4, l5, l6, l7, l8, l9, l10] (zk_psh v []) (s2, z2, k + 0, c + 0)) (fun X s2 z2 => PX X s2 z2))) ∧
  (∀ (n : Nat) (l0 l1 l2 l3 l4 l5 l6 l7 l8 l9 l10 : Option Value) (x : Int32) (r : List Value) (σ : zk_S) (sz k c : Nat), zk_run E (zk_VT E) M_X10_addDoor (C_X10_addDoor E) P PX K (n + 1) 31 [l0, l1, l2, l3, l4, l5, l6, l7, l8, l9, l10] (.int x :: r) (σ, sz, k, c) = ((x = 0 → zk_run E (zk_VT E) M_X10_addDoor (C_X10_addDoor E) P PX K n 44 [l0, l1, l2, l3, l4, l5, l6, l7, l8, l9, l10] r (σ, sz, k, c)) ∧ (¬ (x = 0) → zk_run E (zk_VT E) M_X10_addDoor (C_X10_addDoor E) P PX K n 34 [l0, l1, l2, l3, l4, l5, l6, l7, l8, l9, l10] r (σ, sz, k, c)))) ∧
  (∀ (n : Nat) (l0 l1 l2 l3 l4 l5 l6 l8 l9 l10 : Option Value) (y7 : Value) (r : List Value) (σ : zk_S) (sz k c : Nat), zk_run E (zk_VT E) M_X10_addDoor (C_X10_addDoor E) P PX K (n + 1) 34 [l0, l1, l2, l3, l4, l5, l6, some y7, l8, l9, l10] r (σ, sz, k, c) = (zk_isr y7 ∧ zk_run E (zk_VT E) M_X10_addDoor (C_X10_addDoor E) P PX K n 36 [l0, l1, l2, l3, l4, l5, l6, some y7, l8, l9, l10] (y7 :: r) (σ, sz, k, c))) ∧
  (∀ (n : Nat) (l0 l1 l2 l3 l4 l5 l6 l7 l9 l10 : Option Value) (y8 : Value) (r : List Value) (σ : zk_S) (sz k c : Nat), zk_run E (zk_VT E) M_X10_addDoor (C_X10_addDoor E) P PX K (n + 1) 36 [l0, l1, l2, l3, l4, l5, l6, l7, some y8, l9, l10] r (σ, sz, k, c) = (zk_isr y8 ∧ zk_run E (zk_VT E) M_X10_addDoor (C_X10_addDoor E) P PX K n 38 [l0, l1, l2, l3, l4, l5, l6, l7, some y8, l9, l10] (y8 :: r) (σ, sz, k, c))) ∧
  (∀ (n : Nat) (l0 l1 l2 l3 l4 l5 l6 l7 l8 l9 l10 : Option Value) (v0 : Value) (v1 : Value)  (σ : zk_S) (sz k c : Nat), zk_run E (zk_VT E) M_X10_addDoor (C_X10_addDoor E) P PX K (n + 1) 38 [l0, l1, l2, l3, l4, l5, l6, l7, l8, l9, l10] [v0, v1] (σ, sz, k, c) = (k + 0 ≤ 7 ∧ c + 0 ≤ 43 ∧ (sp_X10_canBeJoined E) [v1, v0] σ sz (fun v s2 z2 => zk_run E (zk_VT E) M_X10_addDoor (C_X10_addDoor E) P PX K n 41 [l0, l1, l2, l3, l4, l5, l6, l7, l8, l9, l10] (zk_psh v []) (s2, z2, k + 0, c + 0)) (fun X s2 z2 => PX X s2 z2))) ∧
  (∀ (n : Nat) (l0 l1 l2 l3 l4 l5 l6 l7 l8 l9 l10 : Option Value) (x : Int32) (r : List Value) (σ : zk_S) (sz k c : Nat), zk_run E (zk_VT E) M_X10_addDoor (C_X10_addDoor E) P PX K (n + 1) 41 [l0, l1, l2, l3, l4, l5, l6, l7, l8, l9, l10] (.int x :: r) (σ, sz, k, c) = ((¬ x = 0 → zk_run E (zk_VT E) M_X10_addDoor (C_X10_addDoor E) P PX K n 54 [l0, l1, l2, l3, l4, l5, l6, l7, l8, l9, l10] r (σ, sz, k, c)) ∧ (¬ (¬ x = 0) → zk_run E (zk_VT E) M_X10_addDoor (C_X10_addDoor E) P PX K n 44 [l0, l1, l2, l3, l4, l5, l6, l7, l8, l9, l10] r (σ, sz, k, c)))) ∧
  (∀ (n : Nat) (l0 l1 l2 l3 l4 l5 l6 l7 l8 l9 l10 : Option Value)   (σ : zk_S) (sz k c : Nat), zk_run E (zk_VT E) M_X10_addDoor (C_X10_addDoor E) P PX K (n + 1) 44 [l0, l1, l2, l3, l4, l5, l6, l7, l8, l9, l10] [] (σ, sz, k, c) = (([] : List Value) = [] ∧ (∀ z2, sz ≤ z2 → PX "java/lang/IllegalArgumentException" σ z2) ∧ k + 1 ≤ 7 ∧ c + 6 ≤ 43)) ∧
  (∀ (n : Nat) (l1 l2 l3 l4 l5 l6 l7 l8 l9 l10 : Option Value) (y0 : Value) (r : List Value) (σ : zk_S) (sz k c : Nat), zk_run E (zk_VT E) M_X10_addDoor (C_X10_addDoor E) P PX K (n + 1) 54 [some y0, l1, l2, l3, l4, l5, l6, l7, l8, l9, l10] r (σ, sz, k, c) = (zk_isr y0 ∧ zk_run E (zk_VT E) M_X10_addDoor (C_X10_addDoor E) P PX K n 55 [some y0, l1, l2, l3, l4, l5, l6, l7, l8, l9, l10] (y0 :: r) (σ, sz, k, c))) ∧
  (∀ (n : Nat) (l0 l1 l2 l3 l4 l5 l6 l7 l8 l9 l10 : Option Value) (a : Nat) (r : List Value) (σ : zk_S) (sz k c : Nat), zk_run E (zk_VT E) M_X10_addDoor (C_X10_addDoor E) P PX K (n + 1) 55 [l0, l1, l2, l3, l4, l5, l6, l7, l8, l9, l10] (.ref a :: r) (σ, sz, k, c) = zk_fld (zk_view E σ a) [9] 0 (fun v => zk_run E (zk_VT E) M_X10_addDoor (C_X10_addDoor E) P PX K n 58 [l0, l1, l2, l3, l4, l5, l6, l7, l8, l9, l10] (v :: r) (σ, sz, k, c))) ∧
  (∀ (n : Nat) (l0 l1 l2 l3 l4 l5 l6 l7 l8 l9 l10 : Option Value) (a : Nat) (r : List Value) (σ : zk_S) (sz k c : Nat), zk_run E (zk_VT E) M_X10_addDoor (C_X10_addDoor E) P PX K (n + 1) 58 [l0, l1, l2, l3, l4, l5, l6, l7, l8, l9, l10] (.ref a :: r) (σ, sz, k, c) = zk_fld (zk_view E σ a) [4] 6 (fun v => zk_run E (zk_VT E) M_X10_addDoor (C_X10_addDoor E) P PX K n 61 [l0, l1, l2, l3, l4, l5, l6, l7, l8, l9, l10] (v :: r) (σ, sz, k, c))) ∧
  (∀ (n : Nat) (l0 l1 l2 l3 l4 l5 l6 l7 l8 l9 l10 : Option Value) (x : Int32) (r : List Value) (σ : zk_S) (sz k c : Nat), zk_run E (zk_VT E) M_X10_addDoor (C_X10_addDoor E) P PX K (n + 1) 61 [l0, l1, l2, l3, l4, l5, l6, l7, l8, l9, l10] (.int x :: r) (σ, sz, k, c) = zk_run E (zk_VT E) M_X10_addDoor (C_X10_addDoor E) P PX K n 63 [l0, l1, l2, l3, l4, l5, l6, l7, zk_kl l8, some (.int x), l10] r (σ, sz, k, c)) ∧
  (∀ (n : Nat) (l0 l1 l2 l3 l4 l5 l6 l7 l8 l10 : Option Value) (y9 : Int32) (r : List Value) (σ : zk_S) (sz k c : Nat), zk_run E (zk_VT E) M_X10_addDoor (C_X10_addDoor E) P PX K (n + 1) 63 [l0, l1, l2, l3, l4, l5, l6, l7, l8, some (.int y9), l10] r (σ, sz, k, c) = zk_run E (zk_VT E) M_X10_addDoor (C_X10_addDoor E) P PX K n 65 [l0, l1, l2, l3, l4, l5, l6, l7, l8, some (.int y9), l10] (.int y9 :: r) (σ, sz, k, c)) ∧
  (∀ (n : Nat) (l0 l1 l2 l3 l4 l5 l6 l7 l8 l9 l10 : Option Value)  (r : List Value) (σ : zk_S) (sz k c : Nat), zk_run E (zk_VT E) M_X10_addDoor (C_X10_addDoor E) P PX K (n + 1) 65 [l0, l1, l2, l3, l4, l5, l6, l7, l8, l9, l10] r (σ, sz, k, c) = zk_run E (zk_VT E) M_X10_addDoor (C_X10_addDoor E) P PX K n 67 [l0, l1, l2, l3, l4, l5, l6, l7, l8, l9, l10] (.int (40) :: r) (σ, sz, k, c)) ∧
  (∀ (n : Nat) (l0 l1 l2 l3 l4 l5 l6 l7 l8 l9 l10 : Option Value) (x y : Int32) (r : List Value) (σ : zk_S) (sz k c : Nat), zk_run E (zk_VT E) M_X10_addDoor (C_X10_addDoor E) P PX K (n + 1) 67 [l0, l1, l2, l3, l4, l5, l6, l7, l8, l9, l10] (.int y :: .int x :: r) (σ, sz, k, c) = ((x < y → zk_run E (zk_VT E) M_X10_addDoor (C_X10_addDoor E) P PX K n 80 [l0, l1, l2, l3, l4, l5, l6, l7, l8, l9, l10] r (σ, sz, k, c)) ∧ (¬ (x < y) → zk_run E (zk_VT E) M_X10_addDoor (C_X10_addDoor E) P PX K n 70 [l0, l1, l2, l3, l4, l5, l6, l7, l8, l9, l10] r (σ, sz, k, c)))) ∧
  (∀ (n : Nat) (l0 l1 l2 l3 l4 l5 l6 l7 l8 l9 l10 : Option Value)   (σ : zk_S) (sz k c : Nat), zk_run E (zk_VT E) M_X10_addDoor (C_X10_addDoor E) P PX K (n + 1) 70 [l0, l1, l2, l3, l4, l5, l6, l7, l8, l9, l10] [] (σ, sz, k, c) = (([] : List Value) = [] ∧ (∀ z2, sz ≤ z2 → PX "java/lang/IllegalStateException" σ z2) ∧ k + 1 ≤ 7 ∧ c + 6 ≤ 43)) ∧
  (∀ (n : Nat) (l0 l1 l2 l3 l4 l5 l6 l7 l8 l9 l10 : Option Value)  (r : List Value) (σ : zk_S) (sz k c : Nat), zk_run E (zk_VT E) M_X10_addDoor (C_X10_addDoor E) P PX K (n + 1) 80 [l0, l1, l2, l3, l4, l5, l6, l7, l8, l9, l10] r (σ, sz, k, c) = (k + 1 ≤ 7 ∧ c + (zk_new 3).length ≤ 43 ∧ zk_wrok E σ sz (.inr (3, zk_new 3)) ∧ zk_run E (zk_VT E) M_X10_addDoor (C_X10_addDoor E) P PX K n 83 [l0, l1, l2, l3, l4, l5, l6, l7, l8, l9, l10] (.ref sz :: r) (zk_wr E σ sz (.inr (3, zk_new 3)), sz + 1, k + 1, c + (zk_new 3).length))) ∧
  (∀ (n : Nat) (l0 l1 l2 l3 l4 l5 l6 l7 l8 l9 l10 : Option Value) (v : Value) (r : List Value) (σ : zk_S) (sz k c : Nat), zk_run E (zk_VT E) M_X10_addDoor (C_X10_addDoor E) P PX K (n + 1) 83 [l0, l1, l2, l3, l4, l5, l6, l7, l8, l9, l10] (v :: r) (σ, sz, k, c) = (zk_c1 v ∧ zk_run E (zk_VT E) M_X10_addDoor (C_X10_addDoor E) P PX K n 84 [l0, l1, l2, l3, l4, l5, l6, l7, l8, l9, l10] (v :: v :: r) (σ, sz, k, c))) ∧
  (∀ (n : Nat) (l0 l1 l2 l3 l4 l5 l6 l8 l9 l10 : Option Value) (y7 : Value) (r : List Value) (σ : zk_S) (sz k c : Nat), zk_run E (zk_VT E) M_X10_addDoor (C_X10_addDoor E) P PX K (n + 1) 84 [l0, l1, l2, l3, l4, l5, l6, some y7, l8, l9, l10] r (σ, sz, k, c) = (zk_isr y7 ∧ zk_run E (zk_VT E) M_X10_addDoor (C_X10_addDoor E) P PX K n 86 [l0, l1, l2, l3, l4, l5, l6, some y7, l8, l9, l10] (y7 :: r) (σ, sz, k, c))) ∧
  (∀ (n : Nat) (l0 l1 l2 l3 l4 l5 l6 l7 l8 l9 l10 : Option Value) (a : Nat) (r : List Value) (σ : zk_S) (sz k c : Nat), zk_run E (zk_VT E) M_X10_addDoor (C_X10_addDoor E) P PX K (n + 1) 86 [l0, l1, l2, l3, l4, l5, l6, l7, l8, l9, l10] (.ref a :: r) (σ, sz, k, c) = zk_fld (zk_view E σ a) [5] 1 (fun v => zk_run E (zk_VT E) M_X10_addDoor (C_X10_addDoor E) P PX K n 89 [l0, l1, l2, l3, l4, l5, l6, l7, l8, l9, l10] (v :: r) (σ, sz, k, c))) ∧
  (∀ (n : Nat) (l0 l1 l2 l4 l5 l6 l7 l8 l9 l10 : Option Value) (y3 : Int32) (r : List Value) (σ : zk_S) (sz k c : Nat), zk_run E (zk_VT E) M_X10_addDoor (C_X10_addDoor E) P PX K (n + 1) 89 [l0, l1, l2, some (.int y3), l4, l5, l6, l7, l8, l9, l10] r (σ, sz, k, c) = zk_run E (zk_VT E) M_X10_addDoor (C_X10_addDoor E) P PX K n 90 [l0, l1, l2, some (.int y3), l4, l5, l6, l7, l8, l9, l10] (.int y3 :: r) (σ, sz, k, c)) ∧
  (∀ (n : Nat) (l0 l1 l2 l3 l5 l6 l7 l8 l9 l10 : Option Value) (y4 : Int32) (r : List Value) (σ : zk_S) (sz k c : Nat), zk_run E (zk_VT E) M_X10_addDoor (C_X10_addDoor E) P PX K (n + 1) 90 [l0, l1, l2, l3, some (.int y4), l5, l6, l7, l8, l9, l10] r (σ, sz, k, c) = zk_run E (zk_VT E) M_X10_addDoor (C_X10_addDoor E) P PX K n 92 [l0, l1, l2, l3, some (.int y4), l5, l6, l7, l8, l9, l10] (.int y4 :: r) (σ, sz, k, c)) ∧
  (∀ (n : Nat) (l0 l1 l2 l3 l4 l6 l7 l8 l9 l10 : Option Value) (y5 : Int32) (r : List Value) (σ : zk_S) (sz k c : Nat), zk_run E (zk_VT E) M_X10_addDoor (C_X10_addDoor E) P PX K (n + 1) 92 [l0, l1, l2, l3, l4, some (.int y5), l6, l7, l8, l9, l10] r (σ, sz, k, c) = zk_run E (zk_VT E) M_X10_addDoor (C_X10_addDoor E) P PX K n 94 [l0, l1, l2, l3, l4, some (.int y5), l6, l7, l8, l9, l10] (.int y5 :: r) (σ, sz, k, c)) ∧
  (∀ (n : Nat) (l0 l1 l2 l3 l4 l5 l7 l8 l9 l10 : Option Value) (y6 : Int32) (r : List Value) (σ : zk_S) (sz k c : Nat), zk_run E (zk_VT E) M_X10_addDoor (C_X10_addDoor E) P PX K (n + 1) 94 [l0, l1, l2, l3, l4, l5, some (.int y6), l7, l8, l9, l10] r (σ, sz, k, c) = zk_run E (zk_VT E) M_X10_addDoor (C_X10_addDoor E) P PX K n 96 [l0, l1, l2, l3, l4, l5, some (.int y6), l7, l8, l9, l10] (.int y6 :: r) (σ, sz, k, c)) ∧
  (∀ (n : Nat) (l0 l1 l2 l3 l4 l5 l6 l7 l8 l9 l10 : Option Value) (v0 : Value) (v1 : Value) (v2 : Value) (v3 : Value) (v4 : Value) (v5 : Value) (v6 : Value)  (σ : zk_S) (sz k c : Nat), zk_run E (zk_VT E) M_X10_addDoor (C_X10_addDoor E) P PX K (n + 1) 96 [l0, l1, l2, l3, l4, l5, l6, l7, l8, l9, l10] [v0, v1, v2, v3, v4, v5, v6] (σ, sz, k, c) = (k + 0 ≤ 7 ∧ c + 0 ≤ 43 ∧ (zk_ri (sp_X4_init E)) [v5, v4, v3, v2, v1, v0] σ sz (fun v s2 z2 => zk_run E (zk_VT E) M_X10_addDoor (C_X10_addDoor E) P PX K n 99 [l0, l1, l2, l3, l4, l5, l6, l7, l8, l9, l10] (zk_psh v [v6]) (s2, z2, k + 0, c + 0)) (fun X s2 z2 => PX X s2 z2))) := ⟨by intros; rfl, by intros; rfl, by intros; rfl, by intros; rfl, by intros; rfl, by intros; rfl, by intros; rfl, by intros; rfl, by intros; rfl, by intros; rfl, by intros; rfl, by intros; rfl, by intros; rfl, by intros; rfl, by intros; rfl, by intros; rfl, by intros; rfl, by intros; rfl, by intros; rfl, by intros; rfl, by intros; rfl, by intros; rfl, by intros; rfl, by intros; rfl, by intros; rfl, by intros; rfl, by intros; rfl, by intros; rfl, by intros; rfl, by intros; rfl, by intros; rfl, by intros; rfl, by intros; rfl, by intros; rfl, by intros; rfl, by intros; rfl, by intros; rfl, by intros; rfl, by intros; rfl, by intros; rfl⟩
theorem r_X10_addDoor_1 (E : zk_E) (P : zk_P zk_S) (PX : zk_X zk_S) (K : Nat → zk_L → List Value → zk_W zk_S → Prop) : (∀ (n : Nat) (l0 l1 l2 l3 l4 l5 l6 l7 l8 l9 l10 : Option Value) (x : Value) (r : List Value) (σ : zk_S) (sz k c : Nat), zk_run E (zk_VT E) M_X10_addDoor (C_X10_addDoor E) P PX K (n + 1) 99 [l0, l1, l2, l3, l4, l5, l6, l7, l8, l9, l10] (x :: r) (σ, sz, k, c) = (zk_isr x ∧ zk_run E (zk_VT E) M_X10_addDoor (C_X10_addDoor E) P PX K n 101 [l0, l1, l2, l3, l4, l5, l6, l7, l8, zk_kl l9, some (x)] r (σ, sz, k, c))) ∧
  (∀ (n : Nat) (l1 l2 l3 l4 l5 l6 l7 l8 l9 l10 : Option Value) (y0 : Value) (r : List Value) (σ : zk_S) (sz k c : Nat), zk_run E (zk_VT E) M_X10_addDoor (C_X10_addDoor E) P PX K (n + 1) 101 [some y0, l1, l2, l3, l4, l5, l6, l7, l8, l9, l10] r (σ, sz, k, c) = (zk_isr y0 ∧ zk_run E (zk_VT E) M_X10_addDoor (C_X10_addDoor E) P PX K n 102 [some y0, l1, l2, l3, l4, l5, l6, l7, l8, l9, l10] (y0 :: r) (σ, sz, k, c))) ∧
  (∀ (n : Nat) (l0 l1 l2 l3 l4 l5 l6 l7 l8 l9 l10 : Option Value) (a : Nat) (r : List Value) (σ : zk_S) (sz k c : Nat), zk_run E (zk_VT E) M_X10_addDoor (C_X10_addDoor E) P PX K (n + 1) 102 [l0, l1, l2, l3, l4, l5, l6, l7, l8, l9, l10] (.ref a :: r) (σ, sz, k, c) = zk_fld (zk_view E σ a) [9] 0 (fun v => zk_run E (zk_VT E) M_X10_addDoor (C_X10_addDoor E) P PX K n 105 [l0, l1, l2, l3, l4, l5, l6, l7, l8, l9, l10] (v :: r) (σ, sz, k, c))) ∧
  (∀ (n : Nat) (l0 l1 l2 l3 l4 l5 l6 l7 l8 l9 : Option Value) (y10 : Value) (r : List Value) (σ : zk_S) (sz k c : Nat), zk_run E (zk_VT E) M_X10_addDoor (C_X10_addDoor E) P PX K (n + 1) 105 [l0, l1, l2, l3, l4, l5, l6, l7, l8, l9, some y10] r (σ, sz, k, c) = (zk_isr y10 ∧ zk_run E (zk_VT E) M_X10_addDoor (C_X10_addDoor E) P PX K n 107 [l0, l1, l2, l3, l4, l5, l6, l7, l8, l9, some y10] (y10 :: r) (σ, sz, k, c))) ∧
  (∀ (n : Nat) (l0 l1 l2 l3 l4 l5 l6 l8 l9 l10 : Option Value) (y7 : Value) (r : List Value) (σ : zk_S) (sz k c : Nat), zk_run E (zk_VT E) M_X10_addDoor (C_X10_addDoor E) P PX K (n + 1) 107 [l0, l1, l2, l3, l4, l5, l6, some y7, l8, l9, l10] r (σ, sz, k, c) = (zk_isr y7 ∧ zk_run E (zk_VT E) M_X10_addDoor (C_X10_addDoor E) P PX K n 109 [l0, l1, l2, l3, l4, l5, l6, some y7, l8, l9, l10] (y7 :: r) (σ, sz, k, c))) ∧
  (∀ (n : Nat) (l0 l1 l2 l3 l4 l5 l6 l7 l9 l10 : Option Value) (y8 : Value) (r : List Value) (σ : zk_S) (sz k c : Nat), zk_run E (zk_VT E) M_X10_addDoor (C_X10_addDoor E) P PX K (n + 1) 109 [l0, l1, l2, l3, l4, l5, l6, l7, some y8, l9, l10] r (σ, sz, k, c) = (zk_isr y8 ∧ zk_run E (zk_VT E) M_X10_addDoor (C_X10_addDoor E) P PX K n 111 [l0, l1, l2, l3, l4, l5, l6, l7, some y8, l9, l10] (y8 :: r) (σ, sz, k, c))) ∧
  (∀ (n : Nat) (l0 l1 l2 l3 l4 l5 l6 l7 l8 l9 l10 : Option Value) (v0 : Value) (v1 : Value) (v2 : Value) (v3 : Value)  (σ : zk_S) (sz k c : Nat), zk_run E (zk_VT E) M_X10_addDoor (C_X10_addDoor E) P PX K (n + 1) 111 [l0, l1, l2, l3, l4, l5, l6, l7, l8, l9, l10] [v0, v1, v2, v3] (σ, sz, k, c) = (k + 0 ≤ 7 ∧ c + 0 ≤ 43 ∧ (zk_rv (zk_VT E) (fun ci => Nat.beq ci 4) (sp_X5_hasPlaceFor E)) [v3, v2, v1, v0] σ sz (fun v s2 z2 => zk_run E (zk_VT E) M_X10_addDoor (C_X10_addDoor E) P PX K n 114 [l0, l1, l2, l3, l4, l5, l6, l7, l8, l9, l10] (zk_psh v []) (s2, z2, k + 0, c + 0)) (fun X s2 z2 => PX X s2 z2))) ∧
  (∀ (n : Nat) (l0 l1 l2 l3 l4 l5 l6 l7 l8 l9 l10 : Option Value) (x : Int32) (r : List Value) (σ : zk_S) (sz k c : Nat), zk_run E (zk_VT E) M_X10_addDoor (C_X10_addDoor E) P PX K (n + 1) 114 [l0, l1, l2, l3, l4, l5, l6, l7, l8, l9, l10] (.int x :: r) (σ, sz, k, c) = ((¬ x = 0 → zk_run E (zk_VT E) M_X10_addDoor (C_X10_addDoor E) P PX K n 127 [l0, l1, l2, l3, l4, l5, l6, l7, l8, l9, l10] r (σ, sz, k, c)) ∧ (¬ (¬ x = 0) → zk_run E (zk_VT E) M_X10_addDoor (C_X10_addDoor E) P PX K n 117 [l0, l1, l2, l3, l4, l5, l6, l7, l8, l9, l10] r (σ, sz, k, c)))) ∧
  (∀ (n : Nat) (l0 l1 l2 l3 l4 l5 l6 l7 l8 l9 l10 : Option Value)   (σ : zk_S) (sz k c : Nat), zk_run E (zk_VT E) M_X10_addDoor (C_X10_addDoor E) P PX K (n + 1) 117 [l0, l1, l2, l3, l4, l5, l6, l7, l8, l9, l10] [] (σ, sz, k, c) = (([] : List Value) = [] ∧ (∀ z2, sz ≤ z2 → PX "java/lang/IllegalStateException" σ z2) ∧ k + 1 ≤ 7 ∧ c + 6 ≤ 43)) ∧
  (∀ (n : Nat) (l1 l2 l3 l4 l5 l6 l7 l8 l9 l10 : Option Value) (y0 : Value) (r : List Value) (σ : zk_S) (sz k c : Nat), zk_run E (zk_VT E) M_X10_addDoor (C_X10_addDoor E) P PX K (n + 1) 127 [some y0, l1, l2, l3, l4, l5, l6, l7, l8, l9, l10] r (σ, sz, k, c) = (zk_isr y0 ∧ zk_run E (zk_VT E) M_X10_addDoor (C_X10_addDoor E) P PX K n 128 [some y0, l1, l2, l3, l4, l5, l6, l7, l8, l9, l10] (y0 :: r) (σ, sz, k, c))) ∧
  (∀ (n : Nat) (l0 l1 l2 l3 l4 l5 l6 l7 l8 l9 l10 : Option Value) (a : Nat) (r : List Value) (σ : zk_S) (sz k c : Nat), zk_run E (zk_VT E) M_X10_addDoor (C_X10_addDoor E) P PX K (n + 1) 128 [l0, l1, l2, l3, l4, l5, l6, l7, l8, l9, l10] (.ref a :: r) (σ, sz, k, c) = zk_fld (zk_view E σ a) [9] 0 (fun v => zk_run E (zk_VT E) M_X10_addDoor (C_X10_addDoor E) P PX K n 131 [l0, l1, l2, l3, l4, l5, l6, l7, l8, l9, l10] (v :: r) (σ, sz, k, c))) ∧
  (∀ (n : Nat) (l0 l1 l2 l3 l4 l5 l6 l7 l8 l9 l10 : Option Value) (a : Nat) (r : List Value) (σ : zk_S) (sz k c : Nat), zk_run E (zk_VT E) M_X10_addDoor (C_X10_addDoor E) P PX K (n + 1) 131 [l0, l1, l2, l3, l4, l5, l6, l7, l8, l9, l10] (.ref a :: r) (σ, sz, k, c) = zk_fld (zk_view E σ a) [4] 1 (fun v => zk_run E (zk_VT E) M_X10_addDoor (C_X10_addDoor E) P PX K n 134 [l0, l1, l2, l3, l4, l5, l6, l7, l8, l9, l10] (v :: r) (σ, sz, k, c))) ∧
  (∀ (n : Nat) (l0 l1 l2 l3 l4 l5 l6 l7 l8 l10 : Option Value) (y9 : Int32) (r : List Value) (σ : zk_S) (sz k c : Nat), zk_run E (zk_VT E) M_X10_addDoor (C_X10_addDoor E) P PX K (n + 1) 134 [l0, l1, l2, l3, l4, l5, l6, l7, l8, some (.int y9), l10] r (σ, sz, k, c) = zk_run E (zk_VT E) M_X10_addDoor (C_X10_addDoor E) P PX K n 136 [l0, l1, l2, l3, l4, l5, l6, l7, l8, some (.int y9), l10] (.int y9 :: r) (σ, sz, k, c)) ∧
  (∀ (n : Nat) (l0 l1 l2 l3 l4 l5 l6 l7 l8 l9 l10 : Option Value)  (r : List Value) (σ : zk_S) (sz k c : Nat), zk_run E (zk_VT E) M_X10_addDoor (C_X10_addDoor E) P PX K (n + 1) 136 [l0, l1, l2, l3, l4, l5, l6, l7, l8, l9, l10] r (σ, sz, k, c) = (k + 1 ≤ 7 ∧ c + (zk_new 1).length ≤ 43 ∧ zk_wrok E σ sz (.inr (1, zk_new 1)) ∧ zk_run E (zk_VT E) M_X10_addDoor (C_X10_addDoor E) P PX K n 139 [l0, l1, l2, l3, l4, l5, l6, l7, l8, l9, l10] (.ref sz :: r) (zk_wr E σ sz (.inr (1, zk_new 1)), sz + 1, k + 1, c + (zk_new 1).length))) ∧
  (∀ (n : Nat) (l0 l1 l2 l3 l4 l5 l6 l7 l8 l9 l10 : Option Value) (v : Value) (r : List Value) (σ : zk_S) (sz k c : Nat), zk_run E (zk_VT E) M_X10_addDoor (C_X10_addDoor E) P PX K (n + 1) 139 [l0, l1, l2, l3, l4, l5, l6, l7, l8, l9, l10] (v :: r) (σ, sz, k, c) = (zk_c1 v ∧ zk_run E (zk_VT E) M_X10_addDoor (C_X10_addDoor E) P PX K n 140 [l0, l1, l2, l3, l4, l5, l6, l7, l8, l9, l10] (v :: v :: r) (σ, sz, k, c))) ∧
  (∀ (n : Nat) (l0 l1 l2 l3 l4 l5 l6 l8 l9 l10 : Option Value) (y7 : Value) (r : List Value) (σ : zk_S) (sz k c : Nat), zk_run E (zk_VT E) M_X10_addDoor (C_X10_addDoor E) P PX K (n + 1) 140 [l0, l1, l2, l3, l4, l5, l6, some y7, l8, l9, l10] r (σ, sz, k, c) = (zk_isr y7 ∧ zk_run E (zk_VT E) M_X10_addDoor (C_X10_addDoor E) P PX K n 142 [l0, l1, l2, l3, l4, l5, l6, some y7, l8, l9, l10] (y7 :: r) (σ, sz, k, c))) ∧
  (∀ (n : Nat) (l0 l1 l2 l3 l4 l5 l6 l7 l9 l10 : Option Value) (y8 : Value) (r : List Value) (σ : zk_S) (sz k c : Nat), zk_run E (zk_VT E) M_X10_addDoor (C_X10_addDoor E) P PX K (n + 1) 142 [l0, l1, l2, l3, l4, l5, l6, l7, some y8, l9, l10] r (σ, sz, k, c) = (zk_isr y8 ∧ zk_run E (zk_VT E) M_X10_addDoor (C_X10_addDoor E) P PX K n 144 [l0, l1, l2, l3, l4, l5, l6, l7, some y8, l9, l10] (y8 :: r) (σ, sz, k, c))) ∧
  (∀ (n : Nat) (l0 l1 l2 l3 l4 l5 l6 l7 l8 l9 : Option Value) (y10 : Value) (r : List Value) (σ : zk_S) (sz k c : Nat), zk_run E (zk_VT E) M_X10_addDoor (C_X10_addDoor E) P PX K (n + 1) 144 [l0, l1, l2, l3, l4, l5, l6, l7, l8, l9, some y10] r (σ, sz, k, c) = (zk_isr y10 ∧ zk_run E (zk_VT E) M_X10_addDoor (C_X10_addDoor E) P PX K n 146 [l0, l1, l2, l3, l4, l5, l6, l7, l8, l9, some y10] (y10 :: r) (σ, sz, k, c))) ∧
  (∀ (n : Nat) (l0 l1 l2 l3 l4 l5 l6 l7 l8 l9 l10 : Option Value) (v0 : Value) (v1 : Value) (v2 : Value) (v3 : Value) (v4 : Value) (v5 : Value) (v6 : Value)  (σ : zk_S) (sz k c : Nat), zk_run E (zk_VT E) M_X10_addDoor (C_X10_addDoor E) P PX K (n + 1) 146 [l0, l1, l2, l3, l4, l5, l6, l7, l8, l9, l10] [v0, v1, v2, v3, v4, v5, v6] (σ, sz, k, c) = (k + 0 ≤ 7 ∧ c + 0 ≤ 43 ∧ (zk_ri (sp_X1_init E)) [v3, v2, v1, v0] σ sz (fun v s2 z2 => zk_run E (zk_VT E) M_X10_addDoor (C_X10_addDoor E) P PX K n 149 [l0, l1, l2, l3, l4, l5, l6, l7, l8, l9, l10] (zk_psh v [v4, v5, v6]) (s2, z2, k + 0, c + 0)) (fun X s2 z2 => PX X s2 z2))) ∧
  (∀ (n : Nat) (l0 l1 l2 l3 l4 l5 l6 l7 l8 l9 l10 : Option Value) (a : Nat) (i : Int32) (r : List Value) (σ : zk_S) (sz k c : Nat), zk_run E (zk_VT E) M_X10_addDoor (C_X10_addDoor E) P PX K (n + 1) 149 [l0, l1, l2, l3, l4, l5, l6, l7, l8, l9, l10] (.null :: .int i :: .ref a :: r) (σ, sz, k, c) = zk_qsn (zk_view E σ a) i [zk_ar E 3, zk_ar E 4, zk_ar E 5, zk_ar E 6] (fun e => zk_wrok E σ a e ∧ zk_run E (zk_VT E) M_X10_addDoor (C_X10_addDoor E) P PX K n 150 [l0, l1, l2, l3, l4, l5, l6, l7, l8, l9, l10] r (zk_wr E σ a e, sz, k, c))) ∧
  (∀ (n : Nat) (l0 l1 l2 l3 l4 l5 l6 l7 l8 l9 l10 : Option Value) (a v : Nat) (i : Int32) (r : List Value) (σ : zk_S) (sz k c : Nat), zk_run E (zk_VT E) M_X10_addDoor (C_X10_addDoor E) P PX K (n + 1) 149 [l0, l1, l2, l3, l4, l5, l6, l7, l8, l9, l10] (.ref v :: .int i :: .ref a :: r) (σ, sz, k, c) = zk_qst E (zk_view E σ a) (zk_view E σ v) i v (fun e => zk_wrok E σ a e ∧ zk_run E (zk_VT E) M_X10_addDoor (C_X10_addDoor E) P PX K n 150 [l0, l1, l2, l3, l4, l5, l6, l7, l8, l9, l10] r (zk_wr E σ a e, sz, k, c))) ∧
  (∀ (n : Nat) (l1 l2 l3 l4 l5 l6 l7 l8 l9 l10 : Option Value) (y0 : Value) (r : List Value) (σ : zk_S) (sz k c : Nat), zk_run E (zk_VT E) M_X10_addDoor (C_X10_addDoor E) P PX K (n + 1) 150 [some y0, l1, l2, l3, l4, l5, l6, l7, l8, l9, l10] r (σ, sz, k, c) = (zk_isr y0 ∧ zk_run E (zk_VT E) M_X10_addDoor (C_X10_addDoor E) P PX K n 151 [some y0, l1, l2, l3, l4, l5, l6, l7, l8, l9, l10] (y0 :: r) (σ, sz, k, c))) ∧
  (∀ (n : Nat) (l0 l1 l2 l3 l4 l5 l6 l7 l8 l9 l10 : Option Value) (a : Nat) (r : List Value) (σ : zk_S) (sz k c : Nat), zk_run E (zk_VT E) M_X10_addDoor (C_X10_addDoor E) P PX K (n + 1) 151 [l0, l1, l2, l3, l4, l5, l6, l7, l8, l9, l10] (.ref a :: r) (σ, sz, k, c) = zk_fld (zk_view E σ a) [9] 0 (fun v => zk_run E (zk_VT E) M_X10_addDoor (C_X10_addDoor E) P PX K n 154 [l0, l1, l2, l3, l4, l5, l6, l7, l8, l9, l10] (v :: r) (σ, sz, k, c))) ∧
  (∀ (n : Nat) (l0 l1 l2 l3 l4 l5 l6 l7 l8 l10 : Option Value) (y9 : Int32) (r : List Value) (σ : zk_S) (sz k c : Nat), zk_run E (zk_VT E) M_X10_addDoor (C_X10_addDoor E) P PX K (n + 1) 154 [l0, l1, l2, l3, l4, l5, l6, l7, l8, some (.int y9), l10] r (σ, sz, k, c) = zk_run E (zk_VT E) M_X10_addDoor (C_X10_addDoor E) P PX K n 156 [l0, l1, l2, l3, l4, l5, l6, l7, l8, some (.int y9), l10] (.int y9 :: r) (σ, sz, k, c)) ∧
  (∀ (n : Nat) (l0 l1 l2 l3 l4 l5 l6 l7 l8 l9 l10 : Option Value)  (r : List Value) (σ : zk_S) (sz k c : Nat), zk_run E (zk_VT E) M_X10_addDoor (C_X10_addDoor E) P PX K (n + 1) 156 [l0, l1, l2, l3, l4, l5, l6, l7, l8, l9, l10] r (σ, sz, k, c) = zk_run E (zk_VT E) M_X10_addDoor (C_X10_addDoor E) P PX K n 157 [l0, l1, l2, l3, l4, l5, l6, l7, l8, l9, l10] (.int (1) :: r) (σ, sz, k, c)) ∧
  (∀ (n : Nat) (l0 l1 l2 l3 l4 l5 l6 l7 l8 l9 l10 : Option Value) (x y : Int32) (r : List Value) (σ : zk_S) (sz k c : Nat), zk_run E (zk_VT E) M_X10_addDoor (C_X10_addDoor E) P PX K (n + 1) 157 [l0, l1, l2, l3, l4, l5, l6, l7, l8, l9, l10] (.int y :: .int x :: r) (σ, sz, k, c) = zk_run E (zk_VT E) M_X10_addDoor (C_X10_addDoor E) P PX K n 158 [l0, l1, l2, l3, l4, l5, l6, l7, l8, l9, l10] (.int (x + y) :: r) (σ, sz, k, c)) ∧
  (∀ (n : Nat) (l0 l1 l2 l3 l4 l5 l6 l7 l8 l9 l10 : Option Value) (a : Nat) (v : Value) (r : List Value) (σ : zk_S) (sz k c : Nat), zk_run E (zk_VT E) M_X10_addDoor (C_X10_addDoor E) P PX K (n + 1) 158 [l0, l1, l2, l3, l4, l5, l6, l7, l8, l9, l10] (v :: .ref a :: r) (σ, sz, k, c) = zk_put (zk_view E σ a) [4] 6 0 v (zk_pfok E σ a 6 v ∧ zk_run E (zk_VT E) M_X10_addDoor (C_X10_addDoor E) P PX K n 161 [l0, l1, l2, l3, l4, l5, l6, l7, l8, l9, l10] r (zk_pf E σ a 6 v, sz, k, c))) ∧
  (∀ (n : Nat) (l1 l2 l3 l4 l5 l6 l7 l8 l9 l10 : Option Value) (y0 : Value) (r : List Value) (σ : zk_S) (sz k c : Nat), zk_run E (zk_VT E) M_X10_addDoor (C_X10_addDoor E) P PX K (n + 1) 161 [some y0, l1, l2, l3, l4, l5, l6, l7, l8, l9, l10] r (σ, sz, k, c) = (zk_isr y0 ∧ zk_run E (zk_VT E) M_X10_addDoor (C_X10_addDoor E) P PX K n 162 [some y0, l1, l2, l3, l4, l5, l6, l7, l8, l9, l10] (y0 :: r) (σ, sz, k, c))) ∧
  (∀ (n : Nat) (l0 l1 l2 l3 l4 l5 l6 l7 l8 l9 l10 : Option Value)  (r : List Value) (σ : zk_S) (sz k c : Nat), zk_run E (zk_VT E) M_X10_addDoor (C_X10_addDoor E) P PX K (n + 1) 162 [l0, l1, l2, l3, l4, l5, l6, l7, l8, l9, l10] r (σ, sz, k, c) = zk_run E (zk_VT E) M_X10_addDoor (C_X10_addDoor E) P PX K n 163 [l0, l1, l2, l3, l4, l5, l6, l7, l8, l9, l10] (.int (0) :: r) (σ, sz, k, c)) ∧
  (∀ (n : Nat) (l0 l1 l2 l3 l4 l5 l6 l7 l8 l9 l10 : Option Value) (a : Nat) (v : Value) (r : List Value) (σ : zk_S) (sz k c : Nat), zk_run E (zk_VT E) M_X10_addDoor (C_X10_addDoor E) P PX K (n + 1) 163 [l0, l1, l2, l3, l4, l5, l6, l7, l8, l9, l10] (v :: .ref a :: r) (σ, sz, k, c) = zk_put (zk_view E σ a) [9] 4 1 v (zk_pfok E σ a 4 v ∧ zk_run E (zk_VT E) M_X10_addDoor (C_X10_addDoor E) P PX K n 166 [l0, l1, l2, l3, l4, l5, l6, l7, l8, l9, l10] r (zk_pf E σ a 4 v, sz, k, c))) ∧
  (∀ (n : Nat) (l0 l1 l2 l3 l4 l5 l6 l7 l8 l10 : Option Value) (y9 : Int32) (r : List Value) (σ : zk_S) (sz k c : Nat), zk_run E (zk_VT E) M_X10_addDoor (C_X10_addDoor E) P PX K (n + 1) 166 [l0, l1, l2, l3, l4, l5, l6, l7, l8, some (.int y9), l10] r (σ, sz, k, c) = zk_run E (zk_VT E) M_X10_addDoor (C_X10_addDoor E) P PX K n 168 [l0, l1, l2, l3, l4, l5, l6, l7, l8, some (.int y9), l10] (.int y9 :: r) (σ, sz, k, c)) ∧
  (∀ (n : Nat) (l0 l1 l2 l3 l4 l5 l6 l7 l8 l9 l10 : Option Value) (x : Int32)  (σ : zk_S) (sz k c : Nat), zk_run E (zk_VT E) M_X10_addDoor (C_X10_addDoor E) P PX K (n + 1) 168 [l0, l1, l2, l3, l4, l5, l6, l7, l8, l9, l10] [.int x] (σ, sz, k, c) = (zk_nok (some (.int)) x ∧ P (some (.int x)) σ sz ∧ k ≤ 7 ∧ c ≤ 43)) ∧
  (∀ (n : Nat) (l0 l1 l2 l3 l4 l5 l6 l7 l8 l9 l10 : Option Value) (r : List Value) (w : zk_W zk_S), zk_go E (zk_VT E) M_X10_addDoor (C_X10_addDoor E) P PX K n 0 [l0, l1, l2, l3, l4, l5, l6, l7, l8, l9, l10] r w = zk_run E (zk_VT E) M_X10_addDoor (C_X10_addDoor E) P PX K (n + 1) 0 [l0, l1, l2, l3, l4, l5, l6, l7, l8, l9, l10] r w) := ⟨by intros; rfl, by intros; rfl, by intros; rfl, by intros; rfl, by intros; rfl, by intros; rfl, by intros; rfl, by intros; rfl, by intros; rfl, by intros; rfl, by intros; rfl, by intros; rfl, by intros; rfl, by intros; rfl, by intros; rfl, by intros; rfl, by intros; rfl, by intros; rfl, by intros; rfl, by intros; rfl, by intros; rfl, by intros; rfl, by intros; rfl, by intros; rfl, by intros; rfl, by intros; rfl, by intros; rfl, by intros; rfl, by intros; rfl, by intros; rfl, by intros; rfl, by intros; rfl, by intros; rfl⟩
theorem vc_X10_addDoor (E : zk_E) : zk_VC E (zk_VT E) M_X10_addDoor (C_X10_addDoor E) 11 (sp_X10_addDoor E) := by
  intro av σ sz P PX h
  obtain ⟨J, N, Q, O, U⟩ := σ
  unfold sp_X10_addDoor at h
  split at h
  case h_2 => exact h.elim
  rename_i a0 r o x y up w
  obtain ⟨rfl, h⟩ := h
  refine ⟨Nat.le_of_ble_eq_true rfl, fun G hG => ?_⟩
  change G 0 [some (.ref (zk_ad E 0)), some (.int r), some (.int o), some (.int x), some (.int y), some (.int up), some (.int w), none, none, none, none] [] ((J, N, Q, O, U), sz, 0, 0)
  try dsimp only at h
  obtain ⟨hsz, hup, J1, N1, ⟨hmi, hxr, hrk⟩, h⟩ := h
  rcases h with ⟨j, hj, rfl, h⟩ | ⟨hr, h⟩
  · obtain ⟨b, hb, hbo, hOb⟩ := hxr.2.1.room hmi hj
    have hb : Q 2 j = some b := hb
    have hOb : O b = some (xrm N1 j) := hOb
    have hb1 := hbo.1
    have hj20 := hj.lt hmi
    have in19 : m_isIn (nI j) 0 19 = true := n_isIn (by decide) hj20 (by decide)
    have hcl : (nI j).toNatClampNeg = j := n_cl (by omega)
    have g1 : ∀ F : Value → Prop, zk_fld (O b) [5] 1 F = F (.int (N1 23 j)) := fun F => by rw [hOb]; simp [zk_fld_o, xrm, cR, zk_nth]
    have g1n : ∀ e (F : Value → Prop), zk_fld (zk_up O sz e b) [5] 1 F = F (.int (N1 23 j)) := fun e F => by rw [zk_up_ne _ _ (by have := hbo.2; omega)]; exact g1 F
    have hnd := hmi.1.2.1.1
    have hnd40 := hmi.1.2.1.2
    have e6 : J 1 6 = nI (m_nd J1) := hxr.1.2.1.trans hnd
    have f1b : fI (O b) 1 = N1 23 j := by rw [hOb]; rfl
    have hR : isR (O b) := by rw [hOb]; exact isR_xrm N1 j
    have en : zk_new 3 = [.int 0, .int 0, .int 0, .int 0, .int 0] := rfl
    have en1 : zk_new 1 = [.null, .null, .int 0, .int 0, .int 0, .int 0, .int 0, .null] := rfl
    rcases h with ⟨ho, h1, h2, h3⟩ | ⟨⟨ho, hr⟩, h⟩
    · have hup' := hup
      unfold c_door at h1 h2 h3
      rcases ho with rfl | ⟨k, hk, rfl⟩
      · have hoo : rq Q (-1) = none := rfl
        have hcs : ∀ p', (none : Option Nat) = some p' → E.1 + 28 ≤ p' ∧ p' < sz ∧ isR (O p') := fun _ w => by cases w
        have hcan : (if (-1 : Int32) = -1 then ¬ N1 23 j = 0 else (-1 : Int32) = nI j ∨ ¬ N1 23 (-1 : Int32).toNatClampNeg = N1 23 j) ↔ r_can O b none = false := by
          rw [if_pos rfl]
          unfold r_can
          dsimp only
          rw [f1b]
          simp
        have hpo : r_can O b none = true → ((-1 : Int32) = -1 ∧ (none : Option Nat) = none) ∨ ∃ k c, MR J1 N1 k ∧ (-1 : Int32) = nI k ∧ Q 2 k = some c ∧ none = some c ∧ N1 23 k = N1 23 j := fun _ => Or.inl ⟨rfl, rfl⟩
        have hod : (-1 : Int32) = -1 ∨ ∃ k, MR J1 N1 k ∧ (-1 : Int32) = nI k := Or.inl rfl
        cases q : m_isIn w 1 6 with
        | false =>
          rw [if_pos (Or.inl q)] at h1
          (refine hG 900 _ _ _ _ ?_; simp only [r_X10_addDoor, r_X10_addDoor_1, spe_X10_roomThere, in19, hcl, hb, Bool.true_eq_false, spe_X10_isWithin, q, zk_b0])
          exact fun z2 hz => h1 rfl O z2 hz (fun _ _ => rfl)
        | true =>
          have hw := m_isIn_VN (lo := 1) (hi := 6) (by decide) (by decide) q
          cases q2 : r_can O b none with
          | false =>
            rw [if_pos (Or.inr (hcan.mpr q2))] at h1
            (refine hG 900 _ _ _ _ ?_; simp only [r_X10_addDoor, r_X10_addDoor_1, spe_X10_roomThere, in19, hcl, hb, Bool.true_eq_false, spe_X10_isWithin, q, zk_b0, spe_X10_canBeJoined])
            refine ⟨hb1, hR, none, rfl, fun p' w => ⟨(hcs p' w).1, (hcs p' w).2.2⟩, ?_⟩
            rw [q2]
            simp only [r_X10_addDoor, r_X10_addDoor_1, zk_b0]
            exact fun z2 hz => h1 rfl O z2 hz (fun _ _ => rfl)
          | true =>
            have nq : ¬ (m_isIn w 1 6 = false ∨ (if (-1 : Int32) = (-1 : Int32) then ¬ N1 23 j = 0 else (-1 : Int32) = nI j ∨ ¬ N1 23 (-1 : Int32).toNatClampNeg = N1 23 j)) := by
              rintro (z | z)
              · rw [q] at z; cases z
              · have := hcan.mp z; rw [q2] at this; cases this
            rw [if_neg nq] at h2 h3
            by_cases q4 : m_nd J1 = 40
            · have c1 : ¬ nI (m_nd J1) < (40 : Int32) := (nI_nlt (b := 40) (by omega) (by omega) : ¬ nI (m_nd J1) < nI 40)
              rw [if_pos (Or.inl q4)] at h2
              (refine hG 900 _ _ _ _ ?_; simp only [r_X10_addDoor, r_X10_addDoor_1, spe_X10_roomThere, in19, hcl, hb, Bool.true_eq_false, spe_X10_isWithin, q, zk_b0, spe_X10_canBeJoined])
              refine ⟨hb1, hR, none, rfl, fun p' w => ⟨(hcs p' w).1, (hcs p' w).2.2⟩, ?_⟩
              rw [q2]
              simp only [r_X10_addDoor, r_X10_addDoor_1, zk_b0, Bool.true_eq_false, e6, c1]
              exact fun z2 hz => h2 rfl O z2 hz (fun _ _ => rfl)
            · have c1 : nI (m_nd J1) < (40 : Int32) := (nI_lt (b := 40) (by omega) (by decide) : nI (m_nd J1) < nI 40)
              generalize eP : cP (N1 23 j) up (p_line up x y) (p_start up x y) w = pc at *
              have hxg := hxr.grow (O2 := zk_up O sz pc) (U2 := U) (sz2 := sz + 1) (fun q hq => zk_up_ne _ _ (by omega)) (by omega)
              have hrok : ROK E Q (zk_up O sz pc) := hxg.2.1.rok
              have hdok : DOK E Q (zk_up O sz pc) := hxg.2.2.1.dok
              have hwok : WOK E Q (zk_up O sz pc) := hxg.2.2.2.1.wok hmi.1
              have hPs : isP (zk_up O sz pc sz) := by rw [zk_up_same, ← eP]; exact ⟨_, _, _, _, _, rfl⟩
              have hRb : isR (zk_up O sz pc b) := by
                have e : zk_up O sz pc b = some (xrm N1 j) := (hxg.2.1.back hj20 hb).2.2
                rw [e]; exact isR_xrm N1 j
              have hcs2 : ∀ p', none = some p' → E.1 + 28 ≤ p' ∧ isR (zk_up O sz pc p') := fun p' w => ⟨(hcs p' w).1, by rw [zk_up_ne _ _ (by have := (hcs p' w).2.1; omega)]; exact (hcs p' w).2.2⟩
              have hpl : h_pl Q (zk_up O sz pc) (zk_up O sz pc sz) b none = m_canBe J1 N1 j (-1 : Int32) x y up w := by
                have e := hxg.place (ix := x) (iy := y) (up := up) (iw := w) hmi hj hb (hpo q2) hw
                rw [eP] at e
                rw [zk_up_same]; exact e
              cases q8 : m_canBe J1 N1 j (-1 : Int32) x y up w with
              | false =>
                rw [if_pos (Or.inr q8)] at h2
                rw [q8] at hpl
                (refine hG 900 _ _ _ _ ?_; simp only [r_X10_addDoor, r_X10_addDoor_1, spe_X10_roomThere, in19, hcl, hb, Bool.true_eq_false, spe_X10_isWithin, q, zk_b0, spe_X10_canBeJoined])
                refine ⟨hb1, hR, none, rfl, fun p' w => ⟨(hcs p' w).1, (hcs p' w).2.2⟩, ?_⟩
                rw [q2]
                simp only [r_X10_addDoor, r_X10_addDoor_1, zk_b0, Bool.true_eq_false, e6, c1, en, zk_vd hb1, g1, g1n, zk_wd _ hsz, zk_wod _ hsz, spe_X4_init, hsz, hup]
                refine ⟨O, rfl, ?_⟩
                rw [eP]
                simp only [r_X10_addDoor, r_X10_addDoor_1, spe_X5_hasPlaceFor]
                refine ⟨hrok, hdok, hwok, hsz, hPs, hb1, hRb, none, rfl, hcs2, ?_⟩
                rw [hpl]
                simp only [r_X10_addDoor, r_X10_addDoor_1, zk_b0]
                exact fun z2 hz => h2 rfl _ z2 (by omega) (fun q hq => zk_up_ne _ _ (by omega))
              | true =>
                have h3 := h3 (by rw [if_neg]; rintro (z | z); exact q4 z; rw [q8] at z; cases z)
                rw [q8] at hpl
                have hin : vp_in (nI (m_nd J1)) 40 := n_in (by omega) (by decide)
                have hcls : (nI (m_nd J1)).toNatClampNeg = m_nd J1 := n_cl (by omega)
                have hsz1 : E.1 + 28 ≤ sz + 1 := by omega
                have hxg2 := hxg.grow (O2 := zk_up (zk_up O sz pc) (sz + 1) (cX 1 (some b) none (p_mx (some pc)) (p_my (some pc)) 0 (w * 2) 0 [.ref sz])) (U2 := U) (sz2 := sz + 2) (fun q hq => zk_up_ne _ _ (by omega)) (by omega)
                have hx2 := hxg2.addD hmi (by omega) hj hod hoo hup (a := sz + 1) (p := sz) ⟨hsz1, by omega⟩ ⟨hsz, by omega⟩ (fun d hd z => by have := (hxr.2.2.1.back hd z).2.1.2; omega) (x := x) (y := y) (w := w) (by rw [zk_up_same, eP, hb]) (by rw [zk_up_ne _ _ (by omega), zk_up_same, eP]) (J2 := zk_uj J 1 6 (nI (m_nd J1 + 1))) rfl (by rw [e6, n_succ]; rfl) rfl rfl
                have h := h3 _ _ _ _ _ (Nat.le_add_right sz 2) rfl (fun o ho => by rw [uj_22 (by decide) o ho, uj_22 (by decide) o ho]) (fun _ _ => rfl) ⟨un_22 (by decide), fun q hq _ => by rw [zk_up_ne _ _ (by omega), zk_up_ne _ _ (by omega)]⟩ (hx2.cn (J2 := zk_uj (zk_uj J 1 6 (nI (m_nd J1 + 1))) 0 4 0) (U2 := U) rfl rfl)
                (refine hG 900 _ _ _ _ ?_; simp only [r_X10_addDoor, r_X10_addDoor_1, spe_X10_roomThere, in19, hcl, hb, Bool.true_eq_false, spe_X10_isWithin, q, zk_b0, spe_X10_canBeJoined])
                refine ⟨hb1, hR, none, rfl, fun p' w => ⟨(hcs p' w).1, (hcs p' w).2.2⟩, ?_⟩
                rw [q2]
                simp only [r_X10_addDoor, r_X10_addDoor_1, zk_b0, Bool.true_eq_false, e6, c1, en, zk_vd hb1, g1, g1n, zk_wd _ hsz, zk_wod _ hsz, spe_X4_init, hsz, hup]
                refine ⟨O, rfl, ?_⟩
                rw [eP]
                simp only [r_X10_addDoor, r_X10_addDoor_1, spe_X5_hasPlaceFor]
                refine ⟨hrok, hdok, hwok, hsz, hPs, hb1, hRb, none, rfl, hcs2, ?_⟩
                rw [hpl]
                simp only [r_X10_addDoor, r_X10_addDoor_1, zk_b0, Bool.true_eq_false, en1, zk_wd _ hsz1, zk_wod _ hsz1, spe_X1_init, hsz1, hsz]
                refine ⟨zk_up O sz pc, none, N1 23 j, up, p_line up x y, p_start up x y, w, rfl, rfl, by rw [zk_up_same, eP], by omega, ?_⟩
                rw [eP]
                unfold cX
                simp only [r_X10_addDoor, r_X10_addDoor_1, hin, hcls, n_succ, zk_vd hsz1, zk_up_same]
                exact h
      · obtain ⟨c, hc, hco, hOc⟩ := hxr.2.1.room hmi hk
        have hc : Q 2 k = some c := hc
        have hOc : O c = some (xrm N1 k) := hOc
        have hk20 := hk.lt hmi
        have in19k : m_isIn (nI k) 0 19 = true := n_isIn (by decide) hk20 (by decide)
        have hclk : (nI k).toNatClampNeg = k := n_cl (by omega)
        have n1 : ¬ nI k = -1 := nI_ne1 (by omega)
        have hoo : rq Q (nI k) = some c := by unfold rq; rw [if_neg n1, hclk, hc]
        have hcs : ∀ p', some c = some p' → E.1 + 28 ≤ p' ∧ p' < sz ∧ isR (O p') := fun p' w => by
          cases w
          exact ⟨hco.1, hco.2, by rw [hOc]; exact isR_xrm N1 k⟩
        have ejk : (c = b) = (nI k = nI j) := by
          rw [n_inj (by omega) (by omega)]
          exact propext ⟨fun w => hxr.2.1.inj hk20 hj20 (hc.trans (by rw [w])) hb, fun w => by rw [w, hb] at hc; exact (Option.some.inj hc).symm⟩
        have f1c : fI (O c) 1 = N1 23 k := by rw [hOc]; rfl
        have hcan : (if nI k = -1 then ¬ N1 23 j = 0 else nI k = nI j ∨ ¬ N1 23 (nI k).toNatClampNeg = N1 23 j) ↔ r_can O b (some c) = false := by
          rw [if_neg n1, hclk]
          unfold r_can
          dsimp only
          rw [f1b, f1c]
          rw [decide_eq_false_iff_not, Decidable.not_and_iff_or_not, Decidable.not_not, ejk]
        have hpo : r_can O b (some c) = true → (nI k = -1 ∧ some c = none) ∨ ∃ k' c', MR J1 N1 k' ∧ nI k = nI k' ∧ Q 2 k' = some c' ∧ some c = some c' ∧ N1 23 k' = N1 23 j := fun w => by
          unfold r_can at w
          dsimp only at w
          rw [f1b, f1c] at w
          exact Or.inr ⟨k, c, hk, rfl, hc, rfl, (of_decide_eq_true w).2⟩
        have hod : nI k = -1 ∨ ∃ k', MR J1 N1 k' ∧ nI k = nI k' := Or.inr ⟨k, hk, rfl⟩
        cases q : m_isIn w 1 6 with
        | false =>
          rw [if_pos (Or.inl q)] at h1
          (refine hG 900 _ _ _ _ ?_; simp only [r_X10_addDoor, r_X10_addDoor_1, spe_X10_roomThere, in19, hcl, hb, in19k, hclk, hc, n1, Bool.true_eq_false, spe_X10_isWithin, q, zk_b0])
          exact fun z2 hz => h1 rfl O z2 hz (fun _ _ => rfl)
        | true =>
          have hw := m_isIn_VN (lo := 1) (hi := 6) (by decide) (by decide) q
          cases q2 : r_can O b (some c) with
          | false =>
            rw [if_pos (Or.inr (hcan.mpr q2))] at h1
            (refine hG 900 _ _ _ _ ?_; simp only [r_X10_addDoor, r_X10_addDoor_1, spe_X10_roomThere, in19, hcl, hb, in19k, hclk, hc, n1, Bool.true_eq_false, spe_X10_isWithin, q, zk_b0, spe_X10_canBeJoined])
            refine ⟨hb1, hR, (some c), rfl, fun p' w => ⟨(hcs p' w).1, (hcs p' w).2.2⟩, ?_⟩
            rw [q2]
            simp only [r_X10_addDoor, r_X10_addDoor_1, zk_b0]
            exact fun z2 hz => h1 rfl O z2 hz (fun _ _ => rfl)
          | true =>
            have nq : ¬ (m_isIn w 1 6 = false ∨ (if (nI k) = (-1 : Int32) then ¬ N1 23 j = 0 else (nI k) = nI j ∨ ¬ N1 23 (nI k).toNatClampNeg = N1 23 j)) := by
              rintro (z | z)
              · rw [q] at z; cases z
              · have := hcan.mp z; rw [q2] at this; cases this
            rw [if_neg nq] at h2 h3
            by_cases q4 : m_nd J1 = 40
            · have c1 : ¬ nI (m_nd J1) < (40 : Int32) := (nI_nlt (b := 40) (by omega) (by omega) : ¬ nI (m_nd J1) < nI 40)
              rw [if_pos (Or.inl q4)] at h2
              (refine hG 900 _ _ _ _ ?_; simp only [r_X10_addDoor, r_X10_addDoor_1, spe_X10_roomThere, in19, hcl, hb, in19k, hclk, hc, n1, Bool.true_eq_false, spe_X10_isWithin, q, zk_b0, spe_X10_canBeJoined])
              refine ⟨hb1, hR, (some c), rfl, fun p' w => ⟨(hcs p' w).1, (hcs p' w).2.2⟩, ?_⟩
              rw [q2]
              simp only [r_X10_addDoor, r_X10_addDoor_1, zk_b0, Bool.true_eq_false, e6, c1]
              exact fun z2 hz => h2 rfl O z2 hz (fun _ _ => rfl)
            · have c1 : nI (m_nd J1) < (40 : Int32) := (nI_lt (b := 40) (by omega) (by decide) : nI (m_nd J1) < nI 40)
              generalize eP : cP (N1 23 j) up (p_line up x y) (p_start up x y) w = pc at *
              have hxg := hxr.grow (O2 := zk_up O sz pc) (U2 := U) (sz2 := sz + 1) (fun q hq => zk_up_ne _ _ (by omega)) (by omega)
              have hrok : ROK E Q (zk_up O sz pc) := hxg.2.1.rok
              have hdok : DOK E Q (zk_up O sz pc) := hxg.2.2.1.dok
              have hwok : WOK E Q (zk_up O sz pc) := hxg.2.2.2.1.wok hmi.1
              have hPs : isP (zk_up O sz pc sz) := by rw [zk_up_same, ← eP]; exact ⟨_, _, _, _, _, rfl⟩
              have hRb : isR (zk_up O sz pc b) := by
                have e : zk_up O sz pc b = some (xrm N1 j) := (hxg.2.1.back hj20 hb).2.2
                rw [e]; exact isR_xrm N1 j
              have hcs2 : ∀ p', (some c) = some p' → E.1 + 28 ≤ p' ∧ isR (zk_up O sz pc p') := fun p' w => ⟨(hcs p' w).1, by rw [zk_up_ne _ _ (by have := (hcs p' w).2.1; omega)]; exact (hcs p' w).2.2⟩
              have hpl : h_pl Q (zk_up O sz pc) (zk_up O sz pc sz) b (some c) = m_canBe J1 N1 j (nI k) x y up w := by
                have e := hxg.place (ix := x) (iy := y) (up := up) (iw := w) hmi hj hb (hpo q2) hw
                rw [eP] at e
                rw [zk_up_same]; exact e
              cases q8 : m_canBe J1 N1 j (nI k) x y up w with
              | false =>
                rw [if_pos (Or.inr q8)] at h2
                rw [q8] at hpl
                (refine hG 900 _ _ _ _ ?_; simp only [r_X10_addDoor, r_X10_addDoor_1, spe_X10_roomThere, in19, hcl, hb, in19k, hclk, hc, n1, Bool.true_eq_false, spe_X10_isWithin, q, zk_b0, spe_X10_canBeJoined])
                refine ⟨hb1, hR, (some c), rfl, fun p' w => ⟨(hcs p' w).1, (hcs p' w).2.2⟩, ?_⟩
                rw [q2]
                simp only [r_X10_addDoor, r_X10_addDoor_1, zk_b0, Bool.true_eq_false, e6, c1, en, zk_vd hb1, g1, g1n, zk_wd _ hsz, zk_wod _ hsz, spe_X4_init, hsz, hup]
                refine ⟨O, rfl, ?_⟩
                rw [eP]
                simp only [r_X10_addDoor, r_X10_addDoor_1, spe_X5_hasPlaceFor]
                refine ⟨hrok, hdok, hwok, hsz, hPs, hb1, hRb, (some c), rfl, hcs2, ?_⟩
                rw [hpl]
                simp only [r_X10_addDoor, r_X10_addDoor_1, zk_b0]
                exact fun z2 hz => h2 rfl _ z2 (by omega) (fun q hq => zk_up_ne _ _ (by omega))
              | true =>
                have h3 := h3 (by rw [if_neg]; rintro (z | z); exact q4 z; rw [q8] at z; cases z)
                rw [q8] at hpl
                have hin : vp_in (nI (m_nd J1)) 40 := n_in (by omega) (by decide)
                have hcls : (nI (m_nd J1)).toNatClampNeg = m_nd J1 := n_cl (by omega)
                have hsz1 : E.1 + 28 ≤ sz + 1 := by omega
                have hxg2 := hxg.grow (O2 := zk_up (zk_up O sz pc) (sz + 1) (cX 1 (some b) (some c) (p_mx (some pc)) (p_my (some pc)) 0 (w * 2) 0 [.ref sz])) (U2 := U) (sz2 := sz + 2) (fun q hq => zk_up_ne _ _ (by omega)) (by omega)
                have hx2 := hxg2.addD hmi (by omega) hj hod hoo hup (a := sz + 1) (p := sz) ⟨hsz1, by omega⟩ ⟨hsz, by omega⟩ (fun d hd z => by have := (hxr.2.2.1.back hd z).2.1.2; omega) (x := x) (y := y) (w := w) (by rw [zk_up_same, eP, hb]) (by rw [zk_up_ne _ _ (by omega), zk_up_same, eP]) (J2 := zk_uj J 1 6 (nI (m_nd J1 + 1))) rfl (by rw [e6, n_succ]; rfl) rfl rfl
                have h := h3 _ _ _ _ _ (Nat.le_add_right sz 2) rfl (fun o ho => by rw [uj_22 (by decide) o ho, uj_22 (by decide) o ho]) (fun _ _ => rfl) ⟨un_22 (by decide), fun q hq _ => by rw [zk_up_ne _ _ (by omega), zk_up_ne _ _ (by omega)]⟩ (hx2.cn (J2 := zk_uj (zk_uj J 1 6 (nI (m_nd J1 + 1))) 0 4 0) (U2 := U) rfl rfl)
                (refine hG 900 _ _ _ _ ?_; simp only [r_X10_addDoor, r_X10_addDoor_1, spe_X10_roomThere, in19, hcl, hb, in19k, hclk, hc, n1, Bool.true_eq_false, spe_X10_isWithin, q, zk_b0, spe_X10_canBeJoined])
                refine ⟨hb1, hR, (some c), rfl, fun p' w => ⟨(hcs p' w).1, (hcs p' w).2.2⟩, ?_⟩
                rw [q2]
                simp only [r_X10_addDoor, r_X10_addDoor_1, zk_b0, Bool.true_eq_false, e6, c1, en, zk_vd hb1, g1, g1n, zk_wd _ hsz, zk_wod _ hsz, spe_X4_init, hsz, hup]
                refine ⟨O, rfl, ?_⟩
                rw [eP]
                simp only [r_X10_addDoor, r_X10_addDoor_1, spe_X5_hasPlaceFor]
                refine ⟨hrok, hdok, hwok, hsz, hPs, hb1, hRb, (some c), rfl, hcs2, ?_⟩
                rw [hpl]
                simp only [r_X10_addDoor, r_X10_addDoor_1, zk_b0, Bool.true_eq_false, en1, zk_wd _ hsz1, zk_wod _ hsz1, spe_X1_init, hsz1, hsz]
                refine ⟨zk_up O sz pc, (some c), N1 23 j, up, p_line up x y, p_start up x y, w, rfl, rfl, by rw [zk_up_same, eP], by omega, ?_⟩
                rw [eP]
                unfold cX
                simp only [r_X10_addDoor, r_X10_addDoor_1, hin, hcls, n_succ, zk_vd hsz1, zk_up_same]
                exact h
    · rcases hxr.noroom hmi.1 hr with q | ⟨q, q2⟩
      · (refine hG 900 _ _ _ _ ?_; simp only [r_X10_addDoor, r_X10_addDoor_1, spe_X10_roomThere, in19, hcl, hb, Bool.true_eq_false, ho, q, Bool.false_eq_true])
        exact fun z2 hz => h O z2 hz (fun _ _ => rfl)
      · (refine hG 900 _ _ _ _ ?_; simp only [r_X10_addDoor, r_X10_addDoor_1, spe_X10_roomThere, in19, hcl, hb, Bool.true_eq_false, ho, q, q2])
        exact fun z2 hz => h O z2 hz (fun _ _ => rfl)
  · rcases hxr.noroom hmi.1 hr with q | ⟨q, q2⟩
    · (refine hG 900 _ _ _ _ ?_; simp only [r_X10_addDoor, r_X10_addDoor_1, spe_X10_roomThere, q, Bool.false_eq_true])
      exact fun z2 hz => h O z2 hz (fun _ _ => rfl)
    · (refine hG 900 _ _ _ _ ?_; simp only [r_X10_addDoor, r_X10_addDoor_1, spe_X10_roomThere, q, q2])
      exact fun z2 hz => h O z2 hz (fun _ _ => rfl)
theorem ct_X10_addDoor {l : Launch} (hl : l.stackTraces = false) (E : zk_E) : zk_C l E (zk_VT E) yX10_addDoor cX10_addDoor 11 (some (.int)) rm_X10_addDoor (sp_X10_addDoor E) := by
  refine zk_meth (M := M_X10_addDoor) (C := C_X10_addDoor E) hl (by decide +kernel) rfl (fun _ _ => rfl) (zk_VT_ok E) MO_X10_addDoor TO_X10_addDoor THo_X10_addDoor ?_ (vc_X10_addDoor E)
  exact fun p e s m args below meth c X pc n mc ms sp2 h => by
    have h2 := zk_lka_mem h
    simp only [List.mem_cons, List.not_mem_nil, or_false, Prod.mk.injEq] at h2
    rcases h2 with ⟨rfl, rfl, rfl, rfl, rfl⟩ | ⟨rfl, rfl, rfl, rfl, rfl⟩ | ⟨rfl, rfl, rfl, rfl, rfl⟩ | ⟨rfl, rfl, rfl, rfl, rfl⟩ | ⟨rfl, rfl, rfl, rfl, rfl⟩ | ⟨rfl, rfl, rfl, rfl, rfl⟩ | ⟨rfl, rfl, rfl, rfl, rfl⟩
    · exact zk_coV (idx := 76) X (ct_X10_roomThere hl E) (List.forall_mem_cons.mpr ⟨zk_wi 105 (by decide +kernel) rfl, List.forall_mem_cons.mpr ⟨zk_wi 107 (by decide +kernel) rfl, List.forall_mem_cons.mpr ⟨zk_wp 2 (by decide +kernel) rfl, List.forall_mem_cons.mpr ⟨zk_wi 2 (by decide +kernel) rfl, List.forall_mem_cons.mpr ⟨zk_wi 108 (by decide +kernel) rfl, fun _ h => absurd h List.not_mem_nil⟩⟩⟩⟩⟩) (fun ci h => by
      have h := Nat.eq_of_beq_eq_true h
      subst h
      exact ⟨_, _, rfl⟩) (by decide +kernel) ⟨by decide, by decide, by decide +kernel⟩ ⟨by decide, by decide⟩
    · exact zk_coV (idx := 76) X (ct_X10_roomThere hl E) (List.forall_mem_cons.mpr ⟨zk_wi 105 (by decide +kernel) rfl, List.forall_mem_cons.mpr ⟨zk_wi 107 (by decide +kernel) rfl, List.forall_mem_cons.mpr ⟨zk_wp 2 (by decide +kernel) rfl, List.forall_mem_cons.mpr ⟨zk_wi 2 (by decide +kernel) rfl, List.forall_mem_cons.mpr ⟨zk_wi 108 (by decide +kernel) rfl, fun _ h => absurd h List.not_mem_nil⟩⟩⟩⟩⟩) (fun ci h => by
      have h := Nat.eq_of_beq_eq_true h
      subst h
      exact ⟨_, _, rfl⟩) (by decide +kernel) ⟨by decide, by decide, by decide +kernel⟩ ⟨by decide, by decide⟩
    · exact zk_coS (idx := 41) X (ct_X10_isWithin hl E) (List.forall_mem_cons.mpr ⟨zk_wi 28 (by decide +kernel) rfl, List.forall_mem_cons.mpr ⟨zk_wi 29 (by decide +kernel) rfl, List.forall_mem_cons.mpr ⟨zk_wi 2 (by decide +kernel) rfl, List.forall_mem_cons.mpr ⟨zk_wi 30 (by decide +kernel) rfl, fun _ h => absurd h List.not_mem_nil⟩⟩⟩⟩) (by decide +kernel) ⟨by decide, by decide, by decide +kernel⟩ ⟨by decide, by decide⟩
    · exact zk_coS (idx := 92) X (ct_X10_canBeJoined hl E) (List.forall_mem_cons.mpr ⟨zk_wi 763 (by decide +kernel) rfl, List.forall_mem_cons.mpr ⟨zk_wi 764 (by decide +kernel) rfl, List.forall_mem_cons.mpr ⟨zk_wi 2 (by decide +kernel) rfl, List.forall_mem_cons.mpr ⟨zk_wi 765 (by decide +kernel) rfl, fun _ h => absurd h List.not_mem_nil⟩⟩⟩⟩) (by decide +kernel) ⟨by decide, by decide, by decide +kernel⟩ ⟨by decide, by decide⟩
    · exact zk_coI (idx := 108) X (ct_X4_init hl E) (List.forall_mem_cons.mpr ⟨zk_wi 770 (by decide +kernel) rfl, List.forall_mem_cons.mpr ⟨zk_wi 771 (by decide +kernel) rfl, List.forall_mem_cons.mpr ⟨zk_wi 15 (by decide +kernel) rfl, List.forall_mem_cons.mpr ⟨zk_wi 772 (by decide +kernel) rfl, fun _ h => absurd h List.not_mem_nil⟩⟩⟩⟩) rfl (by decide +kernel) ⟨by decide, by decide, by decide +kernel⟩ ⟨by decide, by decide⟩
    · exact zk_coV (idx := 111) X (ct_X5_hasPlaceFor hl E) (List.forall_mem_cons.mpr ⟨zk_wi 793 (by decide +kernel) rfl, List.forall_mem_cons.mpr ⟨zk_wi 794 (by decide +kernel) rfl, List.forall_mem_cons.mpr ⟨zk_wi 795 (by decide +kernel) rfl, List.forall_mem_cons.mpr ⟨zk_wi 3 (by decide +kernel) rfl, List.forall_mem_cons.mpr ⟨zk_wi 796 (by decide +kernel) rfl, fun _ h => absurd h List.not_mem_nil⟩⟩⟩⟩⟩) (fun ci h => by
      have h := Nat.eq_of_beq_eq_true h
      subst h
      exact ⟨_, _, rfl⟩) (by decide +kernel) ⟨by decide, by decide, by decide +kernel⟩ ⟨by decide, by decide⟩
    · exact zk_coI (idx := 123) X (ct_X1_init hl E) (List.forall_mem_cons.mpr ⟨zk_wi 832 (by decide +kernel) rfl, List.forall_mem_cons.mpr ⟨zk_wi 833 (by decide +kernel) rfl, List.forall_mem_cons.mpr ⟨zk_wi 17 (by decide +kernel) rfl, List.forall_mem_cons.mpr ⟨zk_wi 834 (by decide +kernel) rfl, fun _ h => absurd h List.not_mem_nil⟩⟩⟩⟩) rfl (by decide +kernel) ⟨by decide, by decide, by decide +kernel⟩ ⟨by decide, by decide⟩


