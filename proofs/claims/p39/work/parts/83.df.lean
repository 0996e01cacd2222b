/-! the class: addStairs -/
section XRS
variable {E : zk_E} {sz : Nat} {J N J1 N1 : Nat → Nat → Int32} {Q : Nat → Nat → Option Nat} {O : zk_Hp} {U : zk_U} {fl : Nat → Int32}
theorem XR.st (h : XR E sz (J1, N1, Q, O, U) J N fl) (hmi : MI J N) {j k a : Nat} (hj : MR J N j) (hk : MR J N k) (hn : m_ns J < 10) (ha : OKA E sz a) {x y : Int32} (hO : O a = some (cX 6 (Q 2 j) (Q 2 k) (2 * x) (2 * y) 20 3 0 [])) {J2 : Nat → Nat → Int32} (e5 : J2 1 5 = J1 1 5) (e6 : J2 1 6 = J1 1 6) (e7 : J2 1 7 = J1 1 7) (e8 : J2 1 8 = J1 1 8 + 1) : XR E sz (J2, N1, zk_un Q 5 (va_up (Q 5) (m_ns J) (some a)), O, U) (uJ_st J) (uN_st N (m_ns J) (nI j) (nI k) x y) fl := by
  have hns := hmi.1.2.2.2.1
  have hj20 := hj.lt hmi
  have hk20 := hk.lt hmi
  have em : m_ns (uJ_st J) = m_ns J + 1 := by
    have : m_ns (uJ_st J) = (J 22 23 + 1).toNatClampNeg := rfl
    rw [this, hns, n_succ, n_cl (by omega)]
  obtain ⟨⟨a1, a2, a3, a4, a5⟩, hB, hC, hD, hT, hG⟩ := h
  have hT : XT E sz Q O J N := hT
  have hC : XC E sz Q O J N fl := hC
  refine ⟨⟨?_, ?_, ?_, ?_, a5⟩, hB, fun d hd => ?_, hD, ?_, hG⟩
  · show J2 1 5 = J 22 1; rw [e5]; exact a1
  · show J2 1 6 = J 22 9; rw [e6]; exact a2
  · show J2 1 7 = J 22 17; rw [e7]; exact a3
  · show J2 1 8 = J 22 23 + 1; rw [e8, show J1 1 8 = J 22 23 from a4]
  · rcases hC d hd with ⟨a, p, b1, b2, b3, b4, b5, b6⟩ | w
    · refine Or.inl ⟨a, p, b1, b2, b3, b4, b5.trans ?_, b6⟩
      unfold xdr m_px m_py
      rw [(d2e d).1]
      simp only [if_pos hd]
      rfl
    · exact Or.inr w
  · intro s hs
    generalize eN : uN_st N (m_ns J) (nI j) (nI k) x y = N2
    have n42 : N2 42 s = upd (N 42) (m_ns J) (nI j) s := by rw [← eN]; rfl
    have n43 : N2 43 s = upd (N 43) (m_ns J) (nI k) s := by rw [← eN]; rfl
    have n44 : N2 44 s = upd (N 44) (m_ns J) x s := by rw [← eN]; rfl
    have n45 : N2 45 s = upd (N 45) (m_ns J) y s := by rw [← eN]; rfl
    show (∃ a', MT (uJ_st J) N2 s ∧ va_up (Q 5) (m_ns J) (some a) s = some a' ∧ OKA E sz a' ∧ O a' = some (xst N2 (zk_un Q 5 (va_up (Q 5) (m_ns J) (some a))) s)) ∨ (¬ MT (uJ_st J) N2 s ∧ va_up (Q 5) (m_ns J) (some a) s = none)
    by_cases w : s = m_ns J
    · subst w
      rw [upd_self] at n42 n43 n44 n45
      refine Or.inl ⟨a, ⟨by rw [em]; omega, by rw [n42]; exact nI_ne2 (by omega)⟩, vaup_self _ _ _, ha, hO.trans ?_⟩
      have rj : ∀ q, q < 20 → rq (zk_un Q 5 (va_up (Q 5) (m_ns J) (some a))) (nI q) = Q 2 q := fun q hq => by
        unfold rq
        rw [if_neg (nI_ne1 (by omega)), n_cl (by omega)]
        rfl
      unfold xst
      rw [n42, n43, n44, n45, rj j hj20, rj k hk20]
    · rw [upd_ne _ _ w] at n42 n43 n44 n45
      rw [vaup_ne _ _ w]
      have eT : MT (uJ_st J) N2 s = MT J N s := by
        unfold MT
        rw [em, n42]
        apply propext
        constructor
        · rintro ⟨z1, z2⟩; exact ⟨by omega, z2⟩
        · rintro ⟨z1, z2⟩; exact ⟨by omega, z2⟩
      rw [eT]
      rcases hT s hs with ⟨a', b1, b2, b3, b4⟩ | w2
      · refine Or.inl ⟨a', b1, b2, b3, b4.trans ?_⟩
        unfold xst
        rw [n42, n43, n44, n45]
        rfl
      · exact Or.inr w2
end XRS
def sp_X10_addStairs (E : zk_E) : zk_Sp zk_S := fun av σ sz P PX => match av with
  | [.ref a, .int lo, .int hi, .int x, .int y] => a = zk_ad E 0 ∧ E.1 + 28 ≤ sz ∧ ∃ J N, IC E sz σ J N ∧ RD J N lo (fun j => RD J N hi (fun k => (c_st J N j k x y = 2 → ZY σ sz "java/lang/IllegalArgumentException" PX) ∧ (c_st J N j k x y = 3 → ZY σ sz "java/lang/IllegalStateException" PX) ∧ (c_st J N j k x y = 0 → ZM E σ sz (uJ_st J) (uN_st N (m_ns J) lo hi x y) (some (.int (nI (m_ns J)))) P)) (ZY σ sz "java/lang/IndexOutOfBoundsException" PX)) (ZY σ sz "java/lang/IndexOutOfBoundsException" PX)
  | _ => False
theorem spe_X10_addStairs (E : zk_E) (a : Nat) (lo : Int32) (hi : Int32) (x : Int32) (y : Int32) (σ : zk_S) (sz : Nat) (P : zk_P zk_S) (PX : zk_X zk_S) : sp_X10_addStairs E [.ref a, .int lo, .int hi, .int x, .int y] σ sz P PX = (a = zk_ad E 0 ∧ E.1 + 28 ≤ sz ∧ ∃ J N, IC E sz σ J N ∧ RD J N lo (fun j => RD J N hi (fun k => (c_st J N j k x y = 2 → ZY σ sz "java/lang/IllegalArgumentException" PX) ∧ (c_st J N j k x y = 3 → ZY σ sz "java/lang/IllegalStateException" PX) ∧ (c_st J N j k x y = 0 → ZM E σ sz (uJ_st J) (uN_st N (m_ns J) lo hi x y) (some (.int (nI (m_ns J)))) P)) (ZY σ sz "java/lang/IndexOutOfBoundsException" PX)) (ZY σ sz "java/lang/IndexOutOfBoundsException" PX)) := propext Iff.rfl
def C_X10_addStairs (E : zk_E) : zk_Cl zk_S := zk_lka [(2, 2, 1, 6, zk_rv (zk_VT E) (fun ci => Nat.beq ci 9) (sp_X10_roomThere E)), (9, 2, 1, 6, zk_rv (zk_VT E) (fun ci => Nat.beq ci 9) (sp_X10_roomThere E)), (34, 3, 0, 0, zk_rv (zk_VT E) (fun ci => Nat.beq ci 5) (sp_X6_hasPoint E)), (45, 3, 0, 0, zk_rv (zk_VT E) (fun ci => Nat.beq ci 5) (sp_X6_hasPoint E)), (107, 5, 0, 0, zk_ri (sp_X7_init E))]
theorem r_X10_addStairs (E : zk_E) (P : zk_P zk_S) (PX : zk_X zk_S) (K : Nat → zk_L → List Value → zk_W zk_S → Prop) : (∀ (n : Nat) (l1 l2 l3 l4 l5 l6 l7 : Option Value) (y0 : Value) (r : List Value) (σ : zk_S) (sz k c : Nat), zk_run E (zk_VT E) M_X10_addStairs (C_X10_addStairs E) P PX K (n + 1) 0 [some y0, l1, l2, l3, l4, l5, l6, l7] r (σ, sz, k, c) = (zk_isr y0 ∧ zk_run E (zk_VT E) M_X10_addStairs (C_X10_addStairs E) P PX K n 1 [some y0, l1, l2, l3, l4, l5, l6, l7] (y0 :: r) (σ, sz, k, c))) ∧
  (∀ (n : Nat) (l0 l2 l3 l4 l5 l6 l7 : Option Value) (y1 : Int32) (r : List Value) (σ : zk_S) (sz k c : Nat), zk_run E (zk_VT E) M_X10_addStairs (C_X10_addStairs E) P PX K (n + 1) 1 [l0, some (.int y1), l2, l3, l4, l5, l6, l7] r (σ, sz, k, c) = zk_run E (zk_VT E) M_X10_addStairs (C_X10_addStairs E) P PX K n 2 [l0, some (.int y1), l2, l3, l4, l5, l6, l7] (.int y1 :: r) (σ, sz, k, c)) ∧
  (∀ (n : Nat) (l0 l1 l2 l3 l4 l5 l6 l7 : Option Value) (v0 : Value) (v1 : Value)  (σ : zk_S) (sz k c : Nat), zk_run E (zk_VT E) M_X10_addStairs (C_X10_addStairs E) P PX K (n + 1) 2 [l0, l1, l2, l3, l4, l5, l6, l7] [v0, v1] (σ, sz, k, c) = (k + 1 ≤ 5 ∧ c + 6 ≤ 31 ∧ (zk_rv (zk_VT E) (fun ci => Nat.beq ci 9) (sp_X10_roomThere E)) [v1, v0] σ sz (fun v s2 z2 => zk_run E (zk_VT E) M_X10_addStairs (C_X10_addStairs E) P PX K n 5 [l0, l1, l2, l3, l4, l5, l6, l7] (zk_psh v []) (s2, z2, k + 1, c + 6)) (fun X s2 z2 => PX X s2 z2))) ∧
  (∀ (n : Nat) (l0 l1 l2 l3 l4 l5 l6 l7 : Option Value) (x : Value) (r : List Value) (σ : zk_S) (sz k c : Nat), zk_run E (zk_VT E) M_X10_addStairs (C_X10_addStairs E) P PX K (n + 1) 5 [l0, l1, l2, l3, l4, l5, l6, l7] (x :: r) (σ, sz, k, c) = (zk_isr x ∧ zk_run E (zk_VT E) M_X10_addStairs (C_X10_addStairs E) P PX K n 7 [l0, l1, l2, l3, zk_kl l4, some (x), l6, l7] r (σ, sz, k, c))) ∧
  (∀ (n : Nat) (l1 l2 l3 l4 l5 l6 l7 : Option Value) (y0 : Value) (r : List Value) (σ : zk_S) (sz k c : Nat), zk_run E (zk_VT E) M_X10_addStairs (C_X10_addStairs E) P PX K (n + 1) 7 [some y0, l1, l2, l3, l4, l5, l6, l7] r (σ, sz, k, c) = (zk_isr y0 ∧ zk_run E (zk_VT E) M_X10_addStairs (C_X10_addStairs E) P PX K n 8 [some y0, l1, l2, l3, l4, l5, l6, l7] (y0 :: r) (σ, sz, k, c))) ∧
  (∀ (n : Nat) (l0 l1 l3 l4 l5 l6 l7 : Option Value) (y2 : Int32) (r : List Value) (σ : zk_S) (sz k c : Nat), zk_run E (zk_VT E) M_X10_addStairs (C_X10_addStairs E) P PX K (n + 1) 8 [l0, l1, some (.int y2), l3, l4, l5, l6, l7] r (σ, sz, k, c) = zk_run E (zk_VT E) M_X10_addStairs (C_X10_addStairs E) P PX K n 9 [l0, l1, some (.int y2), l3, l4, l5, l6, l7] (.int y2 :: r) (σ, sz, k, c)) ∧
  (∀ (n : Nat) (l0 l1 l2 l3 l4 l5 l6 l7 : Option Value) (v0 : Value) (v1 : Value)  (σ : zk_S) (sz k c : Nat), zk_run E (zk_VT E) M_X10_addStairs (C_X10_addStairs E) P PX K (n + 1) 9 [l0, l1, l2, l3, l4, l5, l6, l7] [v0, v1] (σ, sz, k, c) = (k + 1 ≤ 5 ∧ c + 6 ≤ 31 ∧ (zk_rv (zk_VT E) (fun ci => Nat.beq ci 9) (sp_X10_roomThere E)) [v1, v0] σ sz (fun v s2 z2 => zk_run E (zk_VT E) M_X10_addStairs (C_X10_addStairs E) P PX K n 12 [l0, l1, l2, l3, l4, l5, l6, l7] (zk_psh v []) (s2, z2, k + 1, c + 6)) (fun X s2 z2 => PX X s2 z2))) ∧
  (∀ (n : Nat) (l0 l1 l2 l3 l4 l5 l6 l7 : Option Value) (x : Value) (r : List Value) (σ : zk_S) (sz k c : Nat), zk_run E (zk_VT E) M_X10_addStairs (C_X10_addStairs E) P PX K (n + 1) 12 [l0, l1, l2, l3, l4, l5, l6, l7] (x :: r) (σ, sz, k, c) = (zk_isr x ∧ zk_run E (zk_VT E) M_X10_addStairs (C_X10_addStairs E) P PX K n 14 [l0, l1, l2, l3, l4, zk_kl l5, some (x), l7] r (σ, sz, k, c))) ∧
  (∀ (n : Nat) (l0 l1 l2 l3 l4 l5 l7 : Option Value) (y6 : Value) (r : List Value) (σ : zk_S) (sz k c : Nat), zk_run E (zk_VT E) M_X10_addStairs (C_X10_addStairs E) P PX K (n + 1) 14 [l0, l1, l2, l3, l4, l5, some y6, l7] r (σ, sz, k, c) = (zk_isr y6 ∧ zk_run E (zk_VT E) M_X10_addStairs (C_X10_addStairs E) P PX K n 16 [l0, l1, l2, l3, l4, l5, some y6, l7] (y6 :: r) (σ, sz, k, c))) ∧
  (∀ (n : Nat) (l0 l1 l2 l3 l4 l5 l6 l7 : Option Value) (a : Nat) (r : List Value) (σ : zk_S) (sz k c : Nat), zk_run E (zk_VT E) M_X10_addStairs (C_X10_addStairs E) P PX K (n + 1) 16 [l0, l1, l2, l3, l4, l5, l6, l7] (.ref a :: r) (σ, sz, k, c) = zk_fld (zk_view E σ a) [5] 1 (fun v => zk_run E (zk_VT E) M_X10_addStairs (C_X10_addStairs E) P PX K n 19 [l0, l1, l2, l3, l4, l5, l6, l7] (v :: r) (σ, sz, k, c))) ∧
  (∀ (n : Nat) (l0 l1 l2 l3 l4 l6 l7 : Option Value) (y5 : Value) (r : List Value) (σ : zk_S) (sz k c : Nat), zk_run E (zk_VT E) M_X10_addStairs (C_X10_addStairs E) P PX K (n + 1) 19 [l0, l1, l2, l3, l4, some y5, l6, l7] r (σ, sz, k, c) = (zk_isr y5 ∧ zk_run E (zk_VT E) M_X10_addStairs (C_X10_addStairs E) P PX K n 21 [l0, l1, l2, l3, l4, some y5, l6, l7] (y5 :: r) (σ, sz, k, c))) ∧
  (∀ (n : Nat) (l0 l1 l2 l3 l4 l5 l6 l7 : Option Value) (a : Nat) (r : List Value) (σ : zk_S) (sz k c : Nat), zk_run E (zk_VT E) M_X10_addStairs (C_X10_addStairs E) P PX K (n + 1) 21 [l0, l1, l2, l3, l4, l5, l6, l7] (.ref a :: r) (σ, sz, k, c) = zk_fld (zk_view E σ a) [5] 1 (fun v => zk_run E (zk_VT E) M_X10_addStairs (C_X10_addStairs E) P PX K n 24 [l0, l1, l2, l3, l4, l5, l6, l7] (v :: r) (σ, sz, k, c))) ∧
  (∀ (n : Nat) (l0 l1 l2 l3 l4 l5 l6 l7 : Option Value)  (r : List Value) (σ : zk_S) (sz k c : Nat), zk_run E (zk_VT E) M_X10_addStairs (C_X10_addStairs E) P PX K (n + 1) 24 [l0, l1, l2, l3, l4, l5, l6, l7] r (σ, sz, k, c) = zk_run E (zk_VT E) M_X10_addStairs (C_X10_addStairs E) P PX K n 25 [l0, l1, l2, l3, l4, l5, l6, l7] (.int (1) :: r) (σ, sz, k, c)) ∧
  (∀ (n : Nat) (l0 l1 l2 l3 l4 l5 l6 l7 : Option Value) (x y : Int32) (r : List Value) (σ : zk_S) (sz k c : Nat), zk_run E (zk_VT E) M_X10_addStairs (C_X10_addStairs E) P PX K (n + 1) 25 [l0, l1, l2, l3, l4, l5, l6, l7] (.int y :: .int x :: r) (σ, sz, k, c) = zk_run E (zk_VT E) M_X10_addStairs (C_X10_addStairs E) P PX K n 26 [l0, l1, l2, l3, l4, l5, l6, l7] (.int (x + y) :: r) (σ, sz, k, c)) ∧
  (∀ (n : Nat) (l0 l1 l2 l3 l4 l5 l6 l7 : Option Value) (x y : Int32) (r : List Value) (σ : zk_S) (sz k c : Nat), zk_run E (zk_VT E) M_X10_addStairs (C_X10_addStairs E) P PX K (n + 1) 26 [l0, l1, l2, l3, l4, l5, l6, l7] (.int y :: .int x :: r) (σ, sz, k, c) = ((¬ x = y → zk_run E (zk_VT E) M_X10_addStairs (C_X10_addStairs E) P PX K n 51 [l0, l1, l2, l3, l4, l5, l6, l7] r (σ, sz, k, c)) ∧ (¬ (¬ x = y) → zk_run E (zk_VT E) M_X10_addStairs (C_X10_addStairs E) P PX K n 29 [l0, l1, l2, l3, l4, l5, l6, l7] r (σ, sz, k, c)))) ∧
  (∀ (n : Nat) (l0 l1 l2 l3 l4 l6 l7 : Option Value) (y5 : Value) (r : List Value) (σ : zk_S) (sz k c : Nat), zk_run E (zk_VT E) M_X10_addStairs (C_X10_addStairs E) P PX K (n + 1) 29 [l0, l1, l2, l3, l4, some y5, l6, l7] r (σ, sz, k, c) = (zk_isr y5 ∧ zk_run E (zk_VT E) M_X10_addStairs (C_X10_addStairs E) P PX K n 31 [l0, l1, l2, l3, l4, some y5, l6, l7] (y5 :: r) (σ, sz, k, c))) ∧
  (∀ (n : Nat) (l0 l1 l2 l4 l5 l6 l7 : Option Value) (y3 : Int32) (r : List Value) (σ : zk_S) (sz k c : Nat), zk_run E (zk_VT E) M_X10_addStairs (C_X10_addStairs E) P PX K (n + 1) 31 [l0, l1, l2, some (.int y3), l4, l5, l6, l7] r (σ, sz, k, c) = zk_run E (zk_VT E) M_X10_addStairs (C_X10_addStairs E) P PX K n 32 [l0, l1, l2, some (.int y3), l4, l5, l6, l7] (.int y3 :: r) (σ, sz, k, c)) ∧
  (∀ (n : Nat) (l0 l1 l2 l3 l5 l6 l7 : Option Value) (y4 : Int32) (r : List Value) (σ : zk_S) (sz k c : Nat), zk_run E (zk_VT E) M_X10_addStairs (C_X10_addStairs E) P PX K (n + 1) 32 [l0, l1, l2, l3, some (.int y4), l5, l6, l7] r (σ, sz, k, c) = zk_run E (zk_VT E) M_X10_addStairs (C_X10_addStairs E) P PX K n 34 [l0, l1, l2, l3, some (.int y4), l5, l6, l7] (.int y4 :: r) (σ, sz, k, c)) ∧
  (∀ (n : Nat) (l0 l1 l2 l3 l4 l5 l6 l7 : Option Value) (v0 : Value) (v1 : Value) (v2 : Value)  (σ : zk_S) (sz k c : Nat), zk_run E (zk_VT E) M_X10_addStairs (C_X10_addStairs E) P PX K (n + 1) 34 [l0, l1, l2, l3, l4, l5, l6, l7] [v0, v1, v2] (σ, sz, k, c) = (k + 0 ≤ 5 ∧ c + 0 ≤ 31 ∧ (zk_rv (zk_VT E) (fun ci => Nat.beq ci 5) (sp_X6_hasPoint E)) [v2, v1, v0] σ sz (fun v s2 z2 => zk_run E (zk_VT E) M_X10_addStairs (C_X10_addStairs E) P PX K n 37 [l0, l1, l2, l3, l4, l5, l6, l7] (zk_psh v []) (s2, z2, k + 0, c + 0)) (fun X s2 z2 => PX X s2 z2))) ∧
  (∀ (n : Nat) (l0 l1 l2 l3 l4 l5 l6 l7 : Option Value) (x : Int32) (r : List Value) (σ : zk_S) (sz k c : Nat), zk_run E (zk_VT E) M_X10_addStairs (C_X10_addStairs E) P PX K (n + 1) 37 [l0, l1, l2, l3, l4, l5, l6, l7] (.int x :: r) (σ, sz, k, c) = ((x = 0 → zk_run E (zk_VT E) M_X10_addStairs (C_X10_addStairs E) P PX K n 51 [l0, l1, l2, l3, l4, l5, l6, l7] r (σ, sz, k, c)) ∧ (¬ (x = 0) → zk_run E (zk_VT E) M_X10_addStairs (C_X10_addStairs E) P PX K n 40 [l0, l1, l2, l3, l4, l5, l6, l7] r (σ, sz, k, c)))) ∧
  (∀ (n : Nat) (l0 l1 l2 l3 l4 l5 l7 : Option Value) (y6 : Value) (r : List Value) (σ : zk_S) (sz k c : Nat), zk_run E (zk_VT E) M_X10_addStairs (C_X10_addStairs E) P PX K (n + 1) 40 [l0, l1, l2, l3, l4, l5, some y6, l7] r (σ, sz, k, c) = (zk_isr y6 ∧ zk_run E (zk_VT E) M_X10_addStairs (C_X10_addStairs E) P PX K n 42 [l0, l1, l2, l3, l4, l5, some y6, l7] (y6 :: r) (σ, sz, k, c))) ∧
  (∀ (n : Nat) (l0 l1 l2 l4 l5 l6 l7 : Option Value) (y3 : Int32) (r : List Value) (σ : zk_S) (sz k c : Nat), zk_run E (zk_VT E) M_X10_addStairs (C_X10_addStairs E) P PX K (n + 1) 42 [l0, l1, l2, some (.int y3), l4, l5, l6, l7] r (σ, sz, k, c) = zk_run E (zk_VT E) M_X10_addStairs (C_X10_addStairs E) P PX K n 43 [l0, l1, l2, some (.int y3), l4, l5, l6, l7] (.int y3 :: r) (σ, sz, k, c)) ∧
  (∀ (n : Nat) (l0 l1 l2 l3 l5 l6 l7 : Option Value) (y4 : Int32) (r : List Value) (σ : zk_S) (sz k c : Nat), zk_run E (zk_VT E) M_X10_addStairs (C_X10_addStairs E) P PX K (n + 1) 43 [l0, l1, l2, l3, some (.int y4), l5, l6, l7] r (σ, sz, k, c) = zk_run E (zk_VT E) M_X10_addStairs (C_X10_addStairs E) P PX K n 45 [l0, l1, l2, l3, some (.int y4), l5, l6, l7] (.int y4 :: r) (σ, sz, k, c)) ∧
  (∀ (n : Nat) (l0 l1 l2 l3 l4 l5 l6 l7 : Option Value) (v0 : Value) (v1 : Value) (v2 : Value)  (σ : zk_S) (sz k c : Nat), zk_run E (zk_VT E) M_X10_addStairs (C_X10_addStairs E) P PX K (n + 1) 45 [l0, l1, l2, l3, l4, l5, l6, l7] [v0, v1, v2] (σ, sz, k, c) = (k + 0 ≤ 5 ∧ c + 0 ≤ 31 ∧ (zk_rv (zk_VT E) (fun ci => Nat.beq ci 5) (sp_X6_hasPoint E)) [v2, v1, v0] σ sz (fun v s2 z2 => zk_run E (zk_VT E) M_X10_addStairs (C_X10_addStairs E) P PX K n 48 [l0, l1, l2, l3, l4, l5, l6, l7] (zk_psh v []) (s2, z2, k + 0, c + 0)) (fun X s2 z2 => PX X s2 z2))) ∧
  (∀ (n : Nat) (l0 l1 l2 l3 l4 l5 l6 l7 : Option Value) (x : Int32) (r : List Value) (σ : zk_S) (sz k c : Nat), zk_run E (zk_VT E) M_X10_addStairs (C_X10_addStairs E) P PX K (n + 1) 48 [l0, l1, l2, l3, l4, l5, l6, l7] (.int x :: r) (σ, sz, k, c) = ((¬ x = 0 → zk_run E (zk_VT E) M_X10_addStairs (C_X10_addStairs E) P PX K n 61 [l0, l1, l2, l3, l4, l5, l6, l7] r (σ, sz, k, c)) ∧ (¬ (¬ x = 0) → zk_run E (zk_VT E) M_X10_addStairs (C_X10_addStairs E) P PX K n 51 [l0, l1, l2, l3, l4, l5, l6, l7] r (σ, sz, k, c)))) ∧
  (∀ (n : Nat) (l0 l1 l2 l3 l4 l5 l6 l7 : Option Value)   (σ : zk_S) (sz k c : Nat), zk_run E (zk_VT E) M_X10_addStairs (C_X10_addStairs E) P PX K (n + 1) 51 [l0, l1, l2, l3, l4, l5, l6, l7] [] (σ, sz, k, c) = (([] : List Value) = [] ∧ (∀ z2, sz ≤ z2 → PX "java/lang/IllegalArgumentException" σ z2) ∧ k + 1 ≤ 5 ∧ c + 6 ≤ 31)) ∧
  (∀ (n : Nat) (l1 l2 l3 l4 l5 l6 l7 : Option Value) (y0 : Value) (r : List Value) (σ : zk_S) (sz k c : Nat), zk_run E (zk_VT E) M_X10_addStairs (C_X10_addStairs E) P PX K (n + 1) 61 [some y0, l1, l2, l3, l4, l5, l6, l7] r (σ, sz, k, c) = (zk_isr y0 ∧ zk_run E (zk_VT E) M_X10_addStairs (C_X10_addStairs E) P PX K n 62 [some y0, l1, l2, l3, l4, l5, l6, l7] (y0 :: r) (σ, sz, k, c))) ∧
  (∀ (n : Nat) (l0 l1 l2 l3 l4 l5 l6 l7 : Option Value) (a : Nat) (r : List Value) (σ : zk_S) (sz k c : Nat), zk_run E (zk_VT E) M_X10_addStairs (C_X10_addStairs E) P PX K (n + 1) 62 [l0, l1, l2, l3, l4, l5, l6, l7] (.ref a :: r) (σ, sz, k, c) = zk_fld (zk_view E σ a) [9] 0 (fun v => zk_run E (zk_VT E) M_X10_addStairs (C_X10_addStairs E) P PX K n 65 [l0, l1, l2, l3, l4, l5, l6, l7] (v :: r) (σ, sz, k, c))) ∧
  (∀ (n : Nat) (l0 l1 l2 l3 l4 l5 l6 l7 : Option Value) (a : Nat) (r : List Value) (σ : zk_S) (sz k c : Nat), zk_run E (zk_VT E) M_X10_addStairs (C_X10_addStairs E) P PX K (n + 1) 65 [l0, l1, l2, l3, l4, l5, l6, l7] (.ref a :: r) (σ, sz, k, c) = zk_fld (zk_view E σ a) [4] 8 (fun v => zk_run E (zk_VT E) M_X10_addStairs (C_X10_addStairs E) P PX K n 68 [l0, l1, l2, l3, l4, l5, l6, l7] (v :: r) (σ, sz, k, c))) ∧
  (∀ (n : Nat) (l0 l1 l2 l3 l4 l5 l6 l7 : Option Value) (x : Int32) (r : List Value) (σ : zk_S) (sz k c : Nat), zk_run E (zk_VT E) M_X10_addStairs (C_X10_addStairs E) P PX K (n + 1) 68 [l0, l1, l2, l3, l4, l5, l6, l7] (.int x :: r) (σ, sz, k, c) = zk_run E (zk_VT E) M_X10_addStairs (C_X10_addStairs E) P PX K n 70 [l0, l1, l2, l3, l4, l5, zk_kl l6, some (.int x)] r (σ, sz, k, c)) ∧
  (∀ (n : Nat) (l0 l1 l2 l3 l4 l5 l6 : Option Value) (y7 : Int32) (r : List Value) (σ : zk_S) (sz k c : Nat), zk_run E (zk_VT E) M_X10_addStairs (C_X10_addStairs E) P PX K (n + 1) 70 [l0, l1, l2, l3, l4, l5, l6, some (.int y7)] r (σ, sz, k, c) = zk_run E (zk_VT E) M_X10_addStairs (C_X10_addStairs E) P PX K n 72 [l0, l1, l2, l3, l4, l5, l6, some (.int y7)] (.int y7 :: r) (σ, sz, k, c)) ∧
  (∀ (n : Nat) (l0 l1 l2 l3 l4 l5 l6 l7 : Option Value)  (r : List Value) (σ : zk_S) (sz k c : Nat), zk_run E (zk_VT E) M_X10_addStairs (C_X10_addStairs E) P PX K (n + 1) 72 [l0, l1, l2, l3, l4, l5, l6, l7] r (σ, sz, k, c) = zk_run E (zk_VT E) M_X10_addStairs (C_X10_addStairs E) P PX K n 74 [l0, l1, l2, l3, l4, l5, l6, l7] (.int (10) :: r) (σ, sz, k, c)) ∧
  (∀ (n : Nat) (l0 l1 l2 l3 l4 l5 l6 l7 : Option Value) (x y : Int32) (r : List Value) (σ : zk_S) (sz k c : Nat), zk_run E (zk_VT E) M_X10_addStairs (C_X10_addStairs E) P PX K (n + 1) 74 [l0, l1, l2, l3, l4, l5, l6, l7] (.int y :: .int x :: r) (σ, sz, k, c) = ((x < y → zk_run E (zk_VT E) M_X10_addStairs (C_X10_addStairs E) P PX K n 87 [l0, l1, l2, l3, l4, l5, l6, l7] r (σ, sz, k, c)) ∧ (¬ (x < y) → zk_run E (zk_VT E) M_X10_addStairs (C_X10_addStairs E) P PX K n 77 [l0, l1, l2, l3, l4, l5, l6, l7] r (σ, sz, k, c)))) ∧
  (∀ (n : Nat) (l0 l1 l2 l3 l4 l5 l6 l7 : Option Value)   (σ : zk_S) (sz k c : Nat), zk_run E (zk_VT E) M_X10_addStairs (C_X10_addStairs E) P PX K (n + 1) 77 [l0, l1, l2, l3, l4, l5, l6, l7] [] (σ, sz, k, c) = (([] : List Value) = [] ∧ (∀ z2, sz ≤ z2 → PX "java/lang/IllegalStateException" σ z2) ∧ k + 1 ≤ 5 ∧ c + 6 ≤ 31)) ∧
  (∀ (n : Nat) (l1 l2 l3 l4 l5 l6 l7 : Option Value) (y0 : Value) (r : List Value) (σ : zk_S) (sz k c : Nat), zk_run E (zk_VT E) M_X10_addStairs (C_X10_addStairs E) P PX K (n + 1) 87 [some y0, l1, l2, l3, l4, l5, l6, l7] r (σ, sz, k, c) = (zk_isr y0 ∧ zk_run E (zk_VT E) M_X10_addStairs (C_X10_addStairs E) P PX K n 88 [some y0, l1, l2, l3, l4, l5, l6, l7] (y0 :: r) (σ, sz, k, c))) ∧
  (∀ (n : Nat) (l0 l1 l2 l3 l4 l5 l6 l7 : Option Value) (a : Nat) (r : List Value) (σ : zk_S) (sz k c : Nat), zk_run E (zk_VT E) M_X10_addStairs (C_X10_addStairs E) P PX K (n + 1) 88 [l0, l1, l2, l3, l4, l5, l6, l7] (.ref a :: r) (σ, sz, k, c) = zk_fld (zk_view E σ a) [9] 0 (fun v => zk_run E (zk_VT E) M_X10_addStairs (C_X10_addStairs E) P PX K n 91 [l0, l1, l2, l3, l4, l5, l6, l7] (v :: r) (σ, sz, k, c))) ∧
  (∀ (n : Nat) (l0 l1 l2 l3 l4 l5 l6 l7 : Option Value) (a : Nat) (r : List Value) (σ : zk_S) (sz k c : Nat), zk_run E (zk_VT E) M_X10_addStairs (C_X10_addStairs E) P PX K (n + 1) 91 [l0, l1, l2, l3, l4, l5, l6, l7] (.ref a :: r) (σ, sz, k, c) = zk_fld (zk_view E σ a) [4] 3 (fun v => zk_run E (zk_VT E) M_X10_addStairs (C_X10_addStairs E) P PX K n 94 [l0, l1, l2, l3, l4, l5, l6, l7] (v :: r) (σ, sz, k, c))) ∧
  (∀ (n : Nat) (l0 l1 l2 l3 l4 l5 l6 : Option Value) (y7 : Int32) (r : List Value) (σ : zk_S) (sz k c : Nat), zk_run E (zk_VT E) M_X10_addStairs (C_X10_addStairs E) P PX K (n + 1) 94 [l0, l1, l2, l3, l4, l5, l6, some (.int y7)] r (σ, sz, k, c) = zk_run E (zk_VT E) M_X10_addStairs (C_X10_addStairs E) P PX K n 96 [l0, l1, l2, l3, l4, l5, l6, some (.int y7)] (.int y7 :: r) (σ, sz, k, c)) ∧
  (∀ (n : Nat) (l0 l1 l2 l3 l4 l5 l6 l7 : Option Value)  (r : List Value) (σ : zk_S) (sz k c : Nat), zk_run E (zk_VT E) M_X10_addStairs (C_X10_addStairs E) P PX K (n + 1) 96 [l0, l1, l2, l3, l4, l5, l6, l7] r (σ, sz, k, c) = (k + 1 ≤ 5 ∧ c + (zk_new 6).length ≤ 31 ∧ zk_wrok E σ sz (.inr (6, zk_new 6)) ∧ zk_run E (zk_VT E) M_X10_addStairs (C_X10_addStairs E) P PX K n 99 [l0, l1, l2, l3, l4, l5, l6, l7] (.ref sz :: r) (zk_wr E σ sz (.inr (6, zk_new 6)), sz + 1, k + 1, c + (zk_new 6).length))) ∧
  (∀ (n : Nat) (l0 l1 l2 l3 l4 l5 l6 l7 : Option Value) (v : Value) (r : List Value) (σ : zk_S) (sz k c : Nat), zk_run E (zk_VT E) M_X10_addStairs (C_X10_addStairs E) P PX K (n + 1) 99 [l0, l1, l2, l3, l4, l5, l6, l7] (v :: r) (σ, sz, k, c) = (zk_c1 v ∧ zk_run E (zk_VT E) M_X10_addStairs (C_X10_addStairs E) P PX K n 100 [l0, l1, l2, l3, l4, l5, l6, l7] (v :: v :: r) (σ, sz, k, c))) := ⟨by intros; rfl, by intros; rfl, by intros; rfl, by intros; rfl, by intros; rfl, by intros; rfl, by intros; rfl, by intros; rfl, by intros; rfl, by intros; rfl, by intros; rfl, by intros; rfl, by intros; rfl, by intros; rfl, by intros; rfl, by intros; rfl, by intros; rfl, by intros; rfl, by intros; rfl, by intros; rfl, by intros; rfl, by intros; rfl, by intros; rfl, by intros; rfl, by intros; rfl, by intros; rfl, by intros; rfl, by intros; rfl, by intros; rfl, by intros; rfl, by intros; rfl, by intros; rfl, by intros; rfl, by intros; rfl, by intros; rfl, by intros; rfl, by intros; rfl, by intros; rfl, by intros; rfl, by intros; rfl⟩
theorem r_X10_addStairs_1 (E : zk_E) (P : zk_P zk_S) (PX : zk_X zk_S) (K : Nat → zk_L → List Value → zk_W zk_S → Prop) : (∀ (n : Nat) (l0 l1 l2 l3 l4 l6 l7 : Option Value) (y5 : Value) (r : List Value) (σ : zk_S) (sz k c : Nat), zk_run E (zk_VT E) M_X10_addStairs (C_X10_addStairs E) P PX K (n + 1) 100 [l0, l1, l2, l3, l4, some y5, l6, l7] r (σ, sz, k, c) = (zk_isr y5 ∧ zk_run E (zk_VT E) M_X10_addStairs (C_X10_addStairs E) P PX K n 102 [l0, l1, l2, l3, l4, some y5, l6, l7] (y5 :: r) (σ, sz, k, c))) ∧
  (∀ (n : Nat) (l0 l1 l2 l3 l4 l5 l7 : Option Value) (y6 : Value) (r : List Value) (σ : zk_S) (sz k c : Nat), zk_run E (zk_VT E) M_X10_addStairs (C_X10_addStairs E) P PX K (n + 1) 102 [l0, l1, l2, l3, l4, l5, some y6, l7] r (σ, sz, k, c) = (zk_isr y6 ∧ zk_run E (zk_VT E) M_X10_addStairs (C_X10_addStairs E) P PX K n 104 [l0, l1, l2, l3, l4, l5, some y6, l7] (y6 :: r) (σ, sz, k, c))) ∧
  (∀ (n : Nat) (l0 l1 l2 l4 l5 l6 l7 : Option Value) (y3 : Int32) (r : List Value) (σ : zk_S) (sz k c : Nat), zk_run E (zk_VT E) M_X10_addStairs (C_X10_addStairs E) P PX K (n + 1) 104 [l0, l1, l2, some (.int y3), l4, l5, l6, l7] r (σ, sz, k, c) = zk_run E (zk_VT E) M_X10_addStairs (C_X10_addStairs E) P PX K n 105 [l0, l1, l2, some (.int y3), l4, l5, l6, l7] (.int y3 :: r) (σ, sz, k, c)) ∧
  (∀ (n : Nat) (l0 l1 l2 l3 l5 l6 l7 : Option Value) (y4 : Int32) (r : List Value) (σ : zk_S) (sz k c : Nat), zk_run E (zk_VT E) M_X10_addStairs (C_X10_addStairs E) P PX K (n + 1) 105 [l0, l1, l2, l3, some (.int y4), l5, l6, l7] r (σ, sz, k, c) = zk_run E (zk_VT E) M_X10_addStairs (C_X10_addStairs E) P PX K n 107 [l0, l1, l2, l3, some (.int y4), l5, l6, l7] (.int y4 :: r) (σ, sz, k, c)) ∧
  (∀ (n : Nat) (l0 l1 l2 l3 l4 l5 l6 l7 : Option Value) (v0 : Value) (v1 : Value) (v2 : Value) (v3 : Value) (v4 : Value) (v5 : Value) (v6 : Value) (v7 : Value)  (σ : zk_S) (sz k c : Nat), zk_run E (zk_VT E) M_X10_addStairs (C_X10_addStairs E) P PX K (n + 1) 107 [l0, l1, l2, l3, l4, l5, l6, l7] [v0, v1, v2, v3, v4, v5, v6, v7] (σ, sz, k, c) = (k + 0 ≤ 5 ∧ c + 0 ≤ 31 ∧ (zk_ri (sp_X7_init E)) [v4, v3, v2, v1, v0] σ sz (fun v s2 z2 => zk_run E (zk_VT E) M_X10_addStairs (C_X10_addStairs E) P PX K n 110 [l0, l1, l2, l3, l4, l5, l6, l7] (zk_psh v [v5, v6, v7]) (s2, z2, k + 0, c + 0)) (fun X s2 z2 => PX X s2 z2))) ∧
  (∀ (n : Nat) (l0 l1 l2 l3 l4 l5 l6 l7 : Option Value) (a : Nat) (i : Int32) (r : List Value) (σ : zk_S) (sz k c : Nat), zk_run E (zk_VT E) M_X10_addStairs (C_X10_addStairs E) P PX K (n + 1) 110 [l0, l1, l2, l3, l4, l5, l6, l7] (.null :: .int i :: .ref a :: r) (σ, sz, k, c) = zk_qsn (zk_view E σ a) i [zk_ar E 3, zk_ar E 4, zk_ar E 5, zk_ar E 6] (fun e => zk_wrok E σ a e ∧ zk_run E (zk_VT E) M_X10_addStairs (C_X10_addStairs E) P PX K n 111 [l0, l1, l2, l3, l4, l5, l6, l7] r (zk_wr E σ a e, sz, k, c))) ∧
  (∀ (n : Nat) (l0 l1 l2 l3 l4 l5 l6 l7 : Option Value) (a v : Nat) (i : Int32) (r : List Value) (σ : zk_S) (sz k c : Nat), zk_run E (zk_VT E) M_X10_addStairs (C_X10_addStairs E) P PX K (n + 1) 110 [l0, l1, l2, l3, l4, l5, l6, l7] (.ref v :: .int i :: .ref a :: r) (σ, sz, k, c) = zk_qst E (zk_view E σ a) (zk_view E σ v) i v (fun e => zk_wrok E σ a e ∧ zk_run E (zk_VT E) M_X10_addStairs (C_X10_addStairs E) P PX K n 111 [l0, l1, l2, l3, l4, l5, l6, l7] r (zk_wr E σ a e, sz, k, c))) ∧
  (∀ (n : Nat) (l1 l2 l3 l4 l5 l6 l7 : Option Value) (y0 : Value) (r : List Value) (σ : zk_S) (sz k c : Nat), zk_run E (zk_VT E) M_X10_addStairs (C_X10_addStairs E) P PX K (n + 1) 111 [some y0, l1, l2, l3, l4, l5, l6, l7] r (σ, sz, k, c) = (zk_isr y0 ∧ zk_run E (zk_VT E) M_X10_addStairs (C_X10_addStairs E) P PX K n 112 [some y0, l1, l2, l3, l4, l5, l6, l7] (y0 :: r) (σ, sz, k, c))) ∧
  (∀ (n : Nat) (l0 l1 l2 l3 l4 l5 l6 l7 : Option Value) (a : Nat) (r : List Value) (σ : zk_S) (sz k c : Nat), zk_run E (zk_VT E) M_X10_addStairs (C_X10_addStairs E) P PX K (n + 1) 112 [l0, l1, l2, l3, l4, l5, l6, l7] (.ref a :: r) (σ, sz, k, c) = zk_fld (zk_view E σ a) [9] 0 (fun v => zk_run E (zk_VT E) M_X10_addStairs (C_X10_addStairs E) P PX K n 115 [l0, l1, l2, l3, l4, l5, l6, l7] (v :: r) (σ, sz, k, c))) ∧
  (∀ (n : Nat) (l0 l1 l2 l3 l4 l5 l6 : Option Value) (y7 : Int32) (r : List Value) (σ : zk_S) (sz k c : Nat), zk_run E (zk_VT E) M_X10_addStairs (C_X10_addStairs E) P PX K (n + 1) 115 [l0, l1, l2, l3, l4, l5, l6, some (.int y7)] r (σ, sz, k, c) = zk_run E (zk_VT E) M_X10_addStairs (C_X10_addStairs E) P PX K n 117 [l0, l1, l2, l3, l4, l5, l6, some (.int y7)] (.int y7 :: r) (σ, sz, k, c)) ∧
  (∀ (n : Nat) (l0 l1 l2 l3 l4 l5 l6 l7 : Option Value)  (r : List Value) (σ : zk_S) (sz k c : Nat), zk_run E (zk_VT E) M_X10_addStairs (C_X10_addStairs E) P PX K (n + 1) 117 [l0, l1, l2, l3, l4, l5, l6, l7] r (σ, sz, k, c) = zk_run E (zk_VT E) M_X10_addStairs (C_X10_addStairs E) P PX K n 118 [l0, l1, l2, l3, l4, l5, l6, l7] (.int (1) :: r) (σ, sz, k, c)) ∧
  (∀ (n : Nat) (l0 l1 l2 l3 l4 l5 l6 l7 : Option Value) (x y : Int32) (r : List Value) (σ : zk_S) (sz k c : Nat), zk_run E (zk_VT E) M_X10_addStairs (C_X10_addStairs E) P PX K (n + 1) 118 [l0, l1, l2, l3, l4, l5, l6, l7] (.int y :: .int x :: r) (σ, sz, k, c) = zk_run E (zk_VT E) M_X10_addStairs (C_X10_addStairs E) P PX K n 119 [l0, l1, l2, l3, l4, l5, l6, l7] (.int (x + y) :: r) (σ, sz, k, c)) ∧
  (∀ (n : Nat) (l0 l1 l2 l3 l4 l5 l6 l7 : Option Value) (a : Nat) (v : Value) (r : List Value) (σ : zk_S) (sz k c : Nat), zk_run E (zk_VT E) M_X10_addStairs (C_X10_addStairs E) P PX K (n + 1) 119 [l0, l1, l2, l3, l4, l5, l6, l7] (v :: .ref a :: r) (σ, sz, k, c) = zk_put (zk_view E σ a) [4] 8 0 v (zk_pfok E σ a 8 v ∧ zk_run E (zk_VT E) M_X10_addStairs (C_X10_addStairs E) P PX K n 122 [l0, l1, l2, l3, l4, l5, l6, l7] r (zk_pf E σ a 8 v, sz, k, c))) ∧
  (∀ (n : Nat) (l1 l2 l3 l4 l5 l6 l7 : Option Value) (y0 : Value) (r : List Value) (σ : zk_S) (sz k c : Nat), zk_run E (zk_VT E) M_X10_addStairs (C_X10_addStairs E) P PX K (n + 1) 122 [some y0, l1, l2, l3, l4, l5, l6, l7] r (σ, sz, k, c) = (zk_isr y0 ∧ zk_run E (zk_VT E) M_X10_addStairs (C_X10_addStairs E) P PX K n 123 [some y0, l1, l2, l3, l4, l5, l6, l7] (y0 :: r) (σ, sz, k, c))) ∧
  (∀ (n : Nat) (l0 l1 l2 l3 l4 l5 l6 l7 : Option Value)  (r : List Value) (σ : zk_S) (sz k c : Nat), zk_run E (zk_VT E) M_X10_addStairs (C_X10_addStairs E) P PX K (n + 1) 123 [l0, l1, l2, l3, l4, l5, l6, l7] r (σ, sz, k, c) = zk_run E (zk_VT E) M_X10_addStairs (C_X10_addStairs E) P PX K n 124 [l0, l1, l2, l3, l4, l5, l6, l7] (.int (0) :: r) (σ, sz, k, c)) ∧
  (∀ (n : Nat) (l0 l1 l2 l3 l4 l5 l6 l7 : Option Value) (a : Nat) (v : Value) (r : List Value) (σ : zk_S) (sz k c : Nat), zk_run E (zk_VT E) M_X10_addStairs (C_X10_addStairs E) P PX K (n + 1) 124 [l0, l1, l2, l3, l4, l5, l6, l7] (v :: .ref a :: r) (σ, sz, k, c) = zk_put (zk_view E σ a) [9] 4 1 v (zk_pfok E σ a 4 v ∧ zk_run E (zk_VT E) M_X10_addStairs (C_X10_addStairs E) P PX K n 127 [l0, l1, l2, l3, l4, l5, l6, l7] r (zk_pf E σ a 4 v, sz, k, c))) ∧
  (∀ (n : Nat) (l0 l1 l2 l3 l4 l5 l6 : Option Value) (y7 : Int32) (r : List Value) (σ : zk_S) (sz k c : Nat), zk_run E (zk_VT E) M_X10_addStairs (C_X10_addStairs E) P PX K (n + 1) 127 [l0, l1, l2, l3, l4, l5, l6, some (.int y7)] r (σ, sz, k, c) = zk_run E (zk_VT E) M_X10_addStairs (C_X10_addStairs E) P PX K n 129 [l0, l1, l2, l3, l4, l5, l6, some (.int y7)] (.int y7 :: r) (σ, sz, k, c)) ∧
  (∀ (n : Nat) (l0 l1 l2 l3 l4 l5 l6 l7 : Option Value) (x : Int32)  (σ : zk_S) (sz k c : Nat), zk_run E (zk_VT E) M_X10_addStairs (C_X10_addStairs E) P PX K (n + 1) 129 [l0, l1, l2, l3, l4, l5, l6, l7] [.int x] (σ, sz, k, c) = (zk_nok (some (.int)) x ∧ P (some (.int x)) σ sz ∧ k ≤ 5 ∧ c ≤ 31)) ∧
  (∀ (n : Nat) (l0 l1 l2 l3 l4 l5 l6 l7 : Option Value) (r : List Value) (w : zk_W zk_S), zk_go E (zk_VT E) M_X10_addStairs (C_X10_addStairs E) P PX K n 0 [l0, l1, l2, l3, l4, l5, l6, l7] r w = zk_run E (zk_VT E) M_X10_addStairs (C_X10_addStairs E) P PX K (n + 1) 0 [l0, l1, l2, l3, l4, l5, l6, l7] r w) := ⟨by intros; rfl, by intros; rfl, by intros; rfl, by intros; rfl, by intros; rfl, by intros; rfl, by intros; rfl, by intros; rfl, by intros; rfl, by intros; rfl, by intros; rfl, by intros; rfl, by intros; rfl, by intros; rfl, by intros; rfl, by intros; rfl, by intros; rfl, by intros; rfl, by intros; rfl⟩
theorem vc_X10_addStairs (E : zk_E) : zk_VC E (zk_VT E) M_X10_addStairs (C_X10_addStairs E) 8 (sp_X10_addStairs E) := by
  intro av σ sz P PX h
  obtain ⟨J, N, Q, O, U⟩ := σ
  unfold sp_X10_addStairs at h
  split at h
  case h_2 => exact h.elim
  rename_i a0 lo hi x y
  obtain ⟨rfl, h⟩ := h
  refine ⟨Nat.le_of_ble_eq_true rfl, fun G hG => ?_⟩
  change G 0 [some (.ref (zk_ad E 0)), some (.int lo), some (.int hi), some (.int x), some (.int y), none, none, none] [] ((J, N, Q, O, U), sz, 0, 0)
  try dsimp only at h
  obtain ⟨hsz, J1, N1, ⟨hmi, hxr, hrk⟩, h⟩ := h
  rcases h with ⟨j, hj, rfl, h⟩ | ⟨hr, h⟩
  · obtain ⟨b, hb, hbo, hOb⟩ := hxr.2.1.room hmi hj
    have hb : Q 2 j = some b := hb
    have hOb : O b = some (xrm N1 j) := hOb
    have hb1 := hbo.1
    have hj20 := hj.lt hmi
    have in19 : m_isIn (nI j) 0 19 = true := n_isIn (by decide) hj20 (by decide)
    have hcl : (nI j).toNatClampNeg = j := n_cl (by omega)
    rcases h with ⟨k, hk, rfl, h2, h3, h4⟩ | ⟨hr, h⟩
    · obtain ⟨c, hc, hco, hOc⟩ := hxr.2.1.room hmi hk
      have hc : Q 2 k = some c := hc
      have hOc : O c = some (xrm N1 k) := hOc
      have hc1 := hco.1
      have hk20 := hk.lt hmi
      have in19k : m_isIn (nI k) 0 19 = true := n_isIn (by decide) hk20 (by decide)
      have hclk : (nI k).toNatClampNeg = k := n_cl (by omega)
      have g1 : ∀ F : Value → Prop, zk_fld (O b) [5] 1 F = F (.int (N1 23 j)) := fun F => by rw [hOb]; simp [zk_fld_o, xrm, cR, zk_nth]
      have g1k : ∀ F : Value → Prop, zk_fld (O c) [5] 1 F = F (.int (N1 23 k)) := fun F => by rw [hOc]; simp [zk_fld_o, xrm, cR, zk_nth]
      have hi5 : ∀ k, zk_is (O b) k = (k 5 = true) := fun k => by rw [hOb]; rfl
      have hi5k : ∀ k, zk_is (O c) k = (k 5 = true) := fun k => by rw [hOc]; rfl
      have kk : Nat.beq 5 5 = true := rfl
      have hR : isR (O b) := by rw [hOb]; exact isR_xrm N1 j
      have hRk : isR (O c) := by rw [hOc]; exact isR_xrm N1 k
      have p1 : (m_isIn x (fI (O b) 2) (fI (O b) 2 + fI (O b) 4) && m_isIn y (fI (O b) 3) (fI (O b) 3 + fI (O b) 5)) = m_pt N1 j x y := by rw [hOb]; rfl
      have p2 : (m_isIn x (fI (O c) 2) (fI (O c) 2 + fI (O c) 4) && m_isIn y (fI (O c) 3) (fI (O c) 3 + fI (O c) 5)) = m_pt N1 k x y := by rw [hOc]; rfl
      have hns := hmi.1.2.2.2.1
      have hns10 := hmi.1.2.2.2.2
      have e8 : J 1 8 = nI (m_ns J1) := hxr.1.2.2.2.1.trans hns
      unfold c_st at h2 h3 h4
      by_cases q1 : N1 23 k = N1 23 j + 1
      · cases q2 : m_pt N1 j x y with
        | false =>
          rw [if_pos (Or.inr (Or.inl q2))] at h2
          (refine hG 900 _ _ _ _ ?_; simp only [r_X10_addStairs, r_X10_addStairs_1, spe_X10_roomThere, in19, hcl, hb, in19k, hclk, hc, Bool.true_eq_false, zk_vd hb1, zk_vd hc1, g1, g1k, q1, hi5, hi5k, kk, spe_X6_hasPoint, hb1, hc1, hR, hRk, p1, p2, q2, zk_b0])
          exact fun z2 hz => h2 rfl O z2 hz (fun _ _ => rfl)
        | true =>
          cases q3 : m_pt N1 k x y with
          | false =>
            rw [if_pos (Or.inr (Or.inr q3))] at h2
            (refine hG 900 _ _ _ _ ?_; simp only [r_X10_addStairs, r_X10_addStairs_1, spe_X10_roomThere, in19, hcl, hb, in19k, hclk, hc, Bool.true_eq_false, zk_vd hb1, zk_vd hc1, g1, g1k, q1, hi5, hi5k, kk, spe_X6_hasPoint, hb1, hc1, hR, hRk, p1, p2, q2, q3, zk_b0])
            exact fun z2 hz => h2 rfl O z2 hz (fun _ _ => rfl)
          | true =>
            have nq : ¬ (¬ N1 23 k = N1 23 j + 1 ∨ m_pt N1 j x y = false ∨ m_pt N1 k x y = false) := by
              rw [q2, q3]
              rintro (w | w | w)
              · exact w q1
              · cases w
              · cases w
            rw [if_neg nq] at h3 h4
            by_cases q4 : m_ns J1 = 10
            · have c1 : ¬ nI (m_ns J1) < (10 : Int32) := (nI_nlt (b := 10) (by omega) (by omega) : ¬ nI (m_ns J1) < nI 10)
              rw [if_pos (by rw [hns, q4]; rfl)] at h3
              (refine hG 900 _ _ _ _ ?_; simp only [r_X10_addStairs, r_X10_addStairs_1, spe_X10_roomThere, in19, hcl, hb, in19k, hclk, hc, Bool.true_eq_false, zk_vd hb1, zk_vd hc1, g1, g1k, q1, hi5, hi5k, kk, spe_X6_hasPoint, hb1, hc1, hR, hRk, p1, p2, q2, q3, zk_b0, e8, c1])
              exact fun z2 hz => h3 rfl O z2 hz (fun _ _ => rfl)
            · have c1 : nI (m_ns J1) < (10 : Int32) := (nI_lt (b := 10) (by omega) (by decide) : nI (m_ns J1) < nI 10)
              have e6 : zk_new 6 = [.null, .null, .int 0, .int 0, .int 0, .int 0, .int 0] := rfl
              have hin : vp_in (nI (m_ns J1)) 10 := n_in (by omega) (by decide)
              have hcls : (nI (m_ns J1)).toNatClampNeg = m_ns J1 := n_cl (by omega)
              rw [if_neg (by rw [hns]; exact (nI_ge (b := 10) (show m_ns J1 < 10 by omega) (by decide) : ¬ nI 10 ≤ nI (m_ns J1)) ∘ fun w => by rw [w]; decide)] at h4
              have hxg := hxr.grow (O2 := zk_up O sz (cX 6 (some b) (some c) (2 * x) (2 * y) 20 3 0 [])) (U2 := U) (sz2 := sz + 1) (fun q hq => zk_up_ne _ _ (by omega)) (by omega)
              have hx2 := hxg.st hmi hj hk (by omega) (a := sz) ⟨hsz, by omega⟩ (x := x) (y := y) (by rw [zk_up_same, hb, hc]) (J2 := zk_uj (zk_uj J 1 8 (nI (m_ns J1 + 1))) 0 4 0) rfl rfl rfl (by rw [e8, n_succ]; rfl)
              have h := h4 rfl _ _ _ _ _ (Nat.le_succ sz) rfl (fun o ho => by rw [uj_22 (by decide) o ho, uj_22 (by decide) o ho]) (fun _ _ => rfl) ⟨un_22 (by decide), fun q hq _ => zk_up_ne _ _ (by omega)⟩ hx2
              (refine hG 900 _ _ _ _ ?_; simp only [r_X10_addStairs, r_X10_addStairs_1, spe_X10_roomThere, in19, hcl, hb, in19k, hclk, hc, Bool.true_eq_false, zk_vd hb1, zk_vd hc1, g1, g1k, q1, hi5, hi5k, kk, spe_X6_hasPoint, hb1, hc1, hR, hRk, p1, p2, q2, q3, zk_b0, e8, c1, e6, zk_wd _ hsz, zk_wod _ hsz, spe_X7_init, hsz])
              refine ⟨O, rfl, ?_⟩
              unfold cX
              simp only [r_X10_addStairs, r_X10_addStairs_1, hin, hcls, n_succ, zk_vd hsz, zk_up_same]
              exact h
      · rw [if_pos (Or.inl q1)] at h2
        (refine hG 900 _ _ _ _ ?_; simp only [r_X10_addStairs, r_X10_addStairs_1, spe_X10_roomThere, in19, hcl, hb, in19k, hclk, hc, Bool.true_eq_false, zk_vd hb1, zk_vd hc1, g1, g1k, q1])
        exact fun z2 hz => h2 rfl O z2 hz (fun _ _ => rfl)
    · rcases hxr.noroom hmi.1 hr with q | ⟨q, q2⟩
      · (refine hG 900 _ _ _ _ ?_; simp only [r_X10_addStairs, r_X10_addStairs_1, spe_X10_roomThere, in19, hcl, hb, Bool.true_eq_false, q, Bool.false_eq_true])
        exact fun z2 hz => h O z2 hz (fun _ _ => rfl)
      · (refine hG 900 _ _ _ _ ?_; simp only [r_X10_addStairs, r_X10_addStairs_1, spe_X10_roomThere, in19, hcl, hb, Bool.true_eq_false, q, q2])
        exact fun z2 hz => h O z2 hz (fun _ _ => rfl)
  · rcases hxr.noroom hmi.1 hr with q | ⟨q, q2⟩
    · (refine hG 900 _ _ _ _ ?_; simp only [r_X10_addStairs, r_X10_addStairs_1, spe_X10_roomThere, q, Bool.false_eq_true])
      exact fun z2 hz => h O z2 hz (fun _ _ => rfl)
    · (refine hG 900 _ _ _ _ ?_; simp only [r_X10_addStairs, r_X10_addStairs_1, spe_X10_roomThere, q, q2])
      exact fun z2 hz => h O z2 hz (fun _ _ => rfl)
theorem ct_X10_addStairs {l : Launch} (hl : l.stackTraces = false) (E : zk_E) : zk_C l E (zk_VT E) yX10_addStairs cX10_addStairs 8 (some (.int)) rm_X10_addStairs (sp_X10_addStairs E) := by
  refine zk_meth (M := M_X10_addStairs) (C := C_X10_addStairs E) hl (by decide +kernel) rfl (fun _ _ => rfl) (zk_VT_ok E) MO_X10_addStairs TO_X10_addStairs THo_X10_addStairs ?_ (vc_X10_addStairs E)
  exact fun p e s m args below meth c X pc n mc ms sp2 h => by
    have h2 := zk_lka_mem h
    simp only [List.mem_cons, List.not_mem_nil, or_false, Prod.mk.injEq] at h2
    rcases h2 with ⟨rfl, rfl, rfl, rfl, rfl⟩ | ⟨rfl, rfl, rfl, rfl, rfl⟩ | ⟨rfl, rfl, rfl, rfl, rfl⟩ | ⟨rfl, rfl, rfl, rfl, rfl⟩ | ⟨rfl, rfl, rfl, rfl, rfl⟩
    · exact zk_coV (idx := 76) X (ct_X10_roomThere hl E) (List.forall_mem_cons.mpr ⟨zk_wi 105 (by decide +kernel) rfl, List.forall_mem_cons.mpr ⟨zk_wi 107 (by decide +kernel) rfl, List.forall_mem_cons.mpr ⟨zk_wp 2 (by decide +kernel) rfl, List.forall_mem_cons.mpr ⟨zk_wi 2 (by decide +kernel) rfl, List.forall_mem_cons.mpr ⟨zk_wi 108 (by decide +kernel) rfl, fun _ h => absurd h List.not_mem_nil⟩⟩⟩⟩⟩) (fun ci h => by
      have h := Nat.eq_of_beq_eq_true h
      subst h
      exact ⟨_, _, rfl⟩) (by decide +kernel) ⟨by decide, by decide, by decide +kernel⟩ ⟨by decide, by decide⟩
    · exact zk_coV (idx := 76) X (ct_X10_roomThere hl E) (List.forall_mem_cons.mpr ⟨zk_wi 105 (by decide +kernel) rfl, List.forall_mem_cons.mpr ⟨zk_wi 107 (by decide +kernel) rfl, List.forall_mem_cons.mpr ⟨zk_wp 2 (by decide +kernel) rfl, List.forall_mem_cons.mpr ⟨zk_wi 2 (by decide +kernel) rfl, List.forall_mem_cons.mpr ⟨zk_wi 108 (by decide +kernel) rfl, fun _ h => absurd h List.not_mem_nil⟩⟩⟩⟩⟩) (fun ci h => by
      have h := Nat.eq_of_beq_eq_true h
      subst h
      exact ⟨_, _, rfl⟩) (by decide +kernel) ⟨by decide, by decide, by decide +kernel⟩ ⟨by decide, by decide⟩
    · exact zk_coV (idx := 147) X (ct_X6_hasPoint hl E) (List.forall_mem_cons.mpr ⟨zk_wi 897 (by decide +kernel) rfl, List.forall_mem_cons.mpr ⟨zk_wi 898 (by decide +kernel) rfl, List.forall_mem_cons.mpr ⟨zk_wi 899 (by decide +kernel) rfl, List.forall_mem_cons.mpr ⟨zk_wi 12 (by decide +kernel) rfl, List.forall_mem_cons.mpr ⟨zk_wi 900 (by decide +kernel) rfl, fun _ h => absurd h List.not_mem_nil⟩⟩⟩⟩⟩) (fun ci h => by
      have h := Nat.eq_of_beq_eq_true h
      subst h
      exact ⟨_, _, rfl⟩) (by decide +kernel) ⟨by decide, by decide, by decide +kernel⟩ ⟨by decide, by decide⟩
    · exact zk_coV (idx := 147) X (ct_X6_hasPoint hl E) (List.forall_mem_cons.mpr ⟨zk_wi 897 (by decide +kernel) rfl, List.forall_mem_cons.mpr ⟨zk_wi 898 (by decide +kernel) rfl, List.forall_mem_cons.mpr ⟨zk_wi 899 (by decide +kernel) rfl, List.forall_mem_cons.mpr ⟨zk_wi 12 (by decide +kernel) rfl, List.forall_mem_cons.mpr ⟨zk_wi 900 (by decide +kernel) rfl, fun _ h => absurd h List.not_mem_nil⟩⟩⟩⟩⟩) (fun ci h => by
      have h := Nat.eq_of_beq_eq_true h
      subst h
      exact ⟨_, _, rfl⟩) (by decide +kernel) ⟨by decide, by decide, by decide +kernel⟩ ⟨by decide, by decide⟩
    · exact zk_coI (idx := 164) X (ct_X7_init hl E) (List.forall_mem_cons.mpr ⟨zk_wi 905 (by decide +kernel) rfl, List.forall_mem_cons.mpr ⟨zk_wi 906 (by decide +kernel) rfl, List.forall_mem_cons.mpr ⟨zk_wi 18 (by decide +kernel) rfl, List.forall_mem_cons.mpr ⟨zk_wi 907 (by decide +kernel) rfl, fun _ h => absurd h List.not_mem_nil⟩⟩⟩⟩) rfl (by decide +kernel) ⟨by decide, by decide, by decide +kernel⟩ ⟨by decide, by decide⟩


