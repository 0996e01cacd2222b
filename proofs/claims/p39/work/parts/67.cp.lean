/-! the class: addLoadOf, reckonLoads, countStuck -/
/-- how deep, as the class keeps it -/
def WDp (J N N1 : Nat → Nat → Int32) : Prop := ∀ k, k < 20 → N1 14 k = g_deep J N k
theorem g_ldp_eq (J N : Nat → Nat → Int32) (k : Nat) (p : Int32) (f : Nat) (r s : Int32) : g_ldp J N k p (f + 1) r s = if r = -1 then s else g_ldp J N k p f (m_into N (lea J N r.toNatClampNeg)) (s + if lea J N r.toNatClampNeg / 2 = k then p else 0) := rfl
def sp_X8_addLoadOf (E : zk_E) : zk_Sp zk_S := fun av σ sz P PX => match av with
  | [.ref a, .ref p, .ref b] => a = zk_ad E 7 ∧ p = zk_ad E 1 ∧ ∃ J N fl k, MI J N ∧ XR E sz σ J N fl ∧ WLv J N σ.2.1 ∧ WDp J N σ.2.1 ∧ k < 20 ∧ σ.2.2.1 2 k = some b ∧ P none (σ.1, zk_un σ.2.1 10 (fun i => if g_deep J N k = -1 then σ.2.1 10 i else g_ldp J N i (N 29 k) 21 (nI k) (σ.2.1 10 i)), σ.2.2) sz
  | _ => False
theorem spe_X8_addLoadOf (E : zk_E) (a : Nat) (p : Nat) (b : Nat) (σ : zk_S) (sz : Nat) (P : zk_P zk_S) (PX : zk_X zk_S) : sp_X8_addLoadOf E [.ref a, .ref p, .ref b] σ sz P PX = (a = zk_ad E 7 ∧ p = zk_ad E 1 ∧ ∃ J N fl k, MI J N ∧ XR E sz σ J N fl ∧ WLv J N σ.2.1 ∧ WDp J N σ.2.1 ∧ k < 20 ∧ σ.2.2.1 2 k = some b ∧ P none (σ.1, zk_un σ.2.1 10 (fun i => if g_deep J N k = -1 then σ.2.1 10 i else g_ldp J N i (N 29 k) 21 (nI k) (σ.2.1 10 i)), σ.2.2) sz) := propext Iff.rfl
def C_X8_addLoadOf (E : zk_E) : zk_Cl zk_S := zk_lka [(37, 2, 0, 0, zk_rv (zk_VT E) (fun ci => Nat.beq ci 4) (sp_X5_exitAt E)), (65, 2, 0, 0, zk_rv (zk_VT E) (fun ci => Nat.beq ci 1 || Nat.beq ci 6) (sp_X2_otherThan E))]
theorem r_X8_addLoadOf (E : zk_E) (P : zk_P zk_S) (PX : zk_X zk_S) (K : Nat → zk_L → List Value → zk_W zk_S → Prop) : (∀ (n : Nat) (l0 l1 l3 l4 l5 l6 : Option Value) (y2 : Value) (r : List Value) (σ : zk_S) (sz k c : Nat), zk_run E (zk_VT E) M_X8_addLoadOf (C_X8_addLoadOf E) P PX K (n + 1) 0 [l0, l1, some y2, l3, l4, l5, l6] r (σ, sz, k, c) = (zk_isr y2 ∧ zk_run E (zk_VT E) M_X8_addLoadOf (C_X8_addLoadOf E) P PX K n 1 [l0, l1, some y2, l3, l4, l5, l6] (y2 :: r) (σ, sz, k, c))) ∧
  (∀ (n : Nat) (l0 l1 l2 l3 l4 l5 l6 : Option Value) (x : Value) (r : List Value) (σ : zk_S) (sz k c : Nat), zk_run E (zk_VT E) M_X8_addLoadOf (C_X8_addLoadOf E) P PX K (n + 1) 1 [l0, l1, l2, l3, l4, l5, l6] (x :: r) (σ, sz, k, c) = (zk_isr x ∧ zk_run E (zk_VT E) M_X8_addLoadOf (C_X8_addLoadOf E) P PX K n 2 [l0, l1, zk_kl l2, some (x), l4, l5, l6] r (σ, sz, k, c))) ∧
  (∀ (n : Nat) (l0 l1 l2 l3 l4 l5 l6 : Option Value)  (r : List Value) (σ : zk_S) (sz k c : Nat), zk_run E (zk_VT E) M_X8_addLoadOf (C_X8_addLoadOf E) P PX K (n + 1) 2 [l0, l1, l2, l3, l4, l5, l6] r (σ, sz, k, c) = zk_run E (zk_VT E) M_X8_addLoadOf (C_X8_addLoadOf E) P PX K n 3 [l0, l1, l2, l3, l4, l5, l6] (.int (0) :: r) (σ, sz, k, c)) ∧
  (∀ (n : Nat) (l0 l1 l2 l3 l4 l5 l6 : Option Value) (x : Int32) (r : List Value) (σ : zk_S) (sz k c : Nat), zk_run E (zk_VT E) M_X8_addLoadOf (C_X8_addLoadOf E) P PX K (n + 1) 3 [l0, l1, l2, l3, l4, l5, l6] (.int x :: r) (σ, sz, k, c) = zk_run E (zk_VT E) M_X8_addLoadOf (C_X8_addLoadOf E) P PX K n 5 [l0, l1, l2, zk_kl l3, some (.int x), l5, l6] r (σ, sz, k, c)) ∧
  (∀ (n : Nat) (l0 l1 l2 l3 l4 l5 l6 : Option Value)  (r : List Value) (σ : zk_S) (sz k c : Nat), zk_run E (zk_VT E) M_X8_addLoadOf (C_X8_addLoadOf E) P PX K (n + 1) 5 [l0, l1, l2, l3, l4, l5, l6] r (σ, sz, k, c) = K 5 [l0, l1, l2, l3, l4, l5, l6] r (σ, sz, k, c)) ∧
  (∀ (n : Nat) (l0 l1 l2 l3 l4 l5 l6 : Option Value) (v : Value) (r : List Value) (σ : zk_S) (sz k c : Nat), zk_run E (zk_VT E) M_X8_addLoadOf (C_X8_addLoadOf E) P PX K (n + 1) 6 [l0, l1, l2, l3, l4, l5, l6] (v :: r) (σ, sz, k, c) = (zk_isr v ∧ (v = .null → zk_run E (zk_VT E) M_X8_addLoadOf (C_X8_addLoadOf E) P PX K n 75 [l0, l1, l2, l3, l4, l5, l6] r (σ, sz, k, c)) ∧ (¬ (v = .null) → zk_run E (zk_VT E) M_X8_addLoadOf (C_X8_addLoadOf E) P PX K n 9 [l0, l1, l2, l3, l4, l5, l6] r (σ, sz, k, c)))) ∧
  (∀ (n : Nat) (l0 l1 l2 l3 l5 l6 : Option Value) (y4 : Int32) (r : List Value) (σ : zk_S) (sz k c : Nat), zk_run E (zk_VT E) M_X8_addLoadOf (C_X8_addLoadOf E) P PX K (n + 1) 9 [l0, l1, l2, l3, some (.int y4), l5, l6] r (σ, sz, k, c) = zk_run E (zk_VT E) M_X8_addLoadOf (C_X8_addLoadOf E) P PX K n 11 [l0, l1, l2, l3, some (.int y4), l5, l6] (.int y4 :: r) (σ, sz, k, c)) ∧
  (∀ (n : Nat) (l1 l2 l3 l4 l5 l6 : Option Value) (y0 : Value) (r : List Value) (σ : zk_S) (sz k c : Nat), zk_run E (zk_VT E) M_X8_addLoadOf (C_X8_addLoadOf E) P PX K (n + 1) 11 [some y0, l1, l2, l3, l4, l5, l6] r (σ, sz, k, c) = (zk_isr y0 ∧ zk_run E (zk_VT E) M_X8_addLoadOf (C_X8_addLoadOf E) P PX K n 12 [some y0, l1, l2, l3, l4, l5, l6] (y0 :: r) (σ, sz, k, c))) ∧
  (∀ (n : Nat) (l0 l1 l2 l3 l4 l5 l6 : Option Value) (a : Nat) (r : List Value) (σ : zk_S) (sz k c : Nat), zk_run E (zk_VT E) M_X8_addLoadOf (C_X8_addLoadOf E) P PX K (n + 1) 12 [l0, l1, l2, l3, l4, l5, l6] (.ref a :: r) (σ, sz, k, c) = zk_fld (zk_view E σ a) [7] 6 (fun v => zk_run E (zk_VT E) M_X8_addLoadOf (C_X8_addLoadOf E) P PX K n 15 [l0, l1, l2, l3, l4, l5, l6] (v :: r) (σ, sz, k, c))) ∧
  (∀ (n : Nat) (l0 l1 l3 l4 l5 l6 : Option Value) (y2 : Value) (r : List Value) (σ : zk_S) (sz k c : Nat), zk_run E (zk_VT E) M_X8_addLoadOf (C_X8_addLoadOf E) P PX K (n + 1) 15 [l0, l1, some y2, l3, l4, l5, l6] r (σ, sz, k, c) = (zk_isr y2 ∧ zk_run E (zk_VT E) M_X8_addLoadOf (C_X8_addLoadOf E) P PX K n 16 [l0, l1, some y2, l3, l4, l5, l6] (y2 :: r) (σ, sz, k, c))) ∧
  (∀ (n : Nat) (l0 l1 l2 l3 l4 l5 l6 : Option Value) (a : Nat) (r : List Value) (σ : zk_S) (sz k c : Nat), zk_run E (zk_VT E) M_X8_addLoadOf (C_X8_addLoadOf E) P PX K (n + 1) 16 [l0, l1, l2, l3, l4, l5, l6] (.ref a :: r) (σ, sz, k, c) = zk_fld (zk_view E σ a) [5] 0 (fun v => zk_run E (zk_VT E) M_X8_addLoadOf (C_X8_addLoadOf E) P PX K n 19 [l0, l1, l2, l3, l4, l5, l6] (v :: r) (σ, sz, k, c))) ∧
  (∀ (n : Nat) (l0 l1 l2 l3 l4 l5 l6 : Option Value) (a : Nat) (i : Int32) (r : List Value) (σ : zk_S) (sz k c : Nat), zk_run E (zk_VT E) M_X8_addLoadOf (C_X8_addLoadOf E) P PX K (n + 1) 19 [l0, l1, l2, l3, l4, l5, l6] (.int i :: .ref a :: r) (σ, sz, k, c) = zk_ild (zk_view E σ a) (zk_ar E 0) i (fun x => zk_run E (zk_VT E) M_X8_addLoadOf (C_X8_addLoadOf E) P PX K n 20 [l0, l1, l2, l3, l4, l5, l6] (.int x :: r) (σ, sz, k, c))) ∧
  (∀ (n : Nat) (l0 l1 l2 l3 l4 l5 l6 : Option Value) (x y : Int32) (r : List Value) (σ : zk_S) (sz k c : Nat), zk_run E (zk_VT E) M_X8_addLoadOf (C_X8_addLoadOf E) P PX K (n + 1) 20 [l0, l1, l2, l3, l4, l5, l6] (.int y :: .int x :: r) (σ, sz, k, c) = ((y ≤ x → zk_run E (zk_VT E) M_X8_addLoadOf (C_X8_addLoadOf E) P PX K n 75 [l0, l1, l2, l3, l4, l5, l6] r (σ, sz, k, c)) ∧ (¬ (y ≤ x) → zk_run E (zk_VT E) M_X8_addLoadOf (C_X8_addLoadOf E) P PX K n 23 [l0, l1, l2, l3, l4, l5, l6] r (σ, sz, k, c)))) ∧
  (∀ (n : Nat) (l1 l2 l3 l4 l5 l6 : Option Value) (y0 : Value) (r : List Value) (σ : zk_S) (sz k c : Nat), zk_run E (zk_VT E) M_X8_addLoadOf (C_X8_addLoadOf E) P PX K (n + 1) 23 [some y0, l1, l2, l3, l4, l5, l6] r (σ, sz, k, c) = (zk_isr y0 ∧ zk_run E (zk_VT E) M_X8_addLoadOf (C_X8_addLoadOf E) P PX K n 24 [some y0, l1, l2, l3, l4, l5, l6] (y0 :: r) (σ, sz, k, c))) ∧
  (∀ (n : Nat) (l0 l1 l2 l3 l4 l5 l6 : Option Value) (a : Nat) (r : List Value) (σ : zk_S) (sz k c : Nat), zk_run E (zk_VT E) M_X8_addLoadOf (C_X8_addLoadOf E) P PX K (n + 1) 24 [l0, l1, l2, l3, l4, l5, l6] (.ref a :: r) (σ, sz, k, c) = zk_fld (zk_view E σ a) [7] 3 (fun v => zk_run E (zk_VT E) M_X8_addLoadOf (C_X8_addLoadOf E) P PX K n 27 [l0, l1, l2, l3, l4, l5, l6] (v :: r) (σ, sz, k, c))) ∧
  (∀ (n : Nat) (l0 l1 l2 l4 l5 l6 : Option Value) (y3 : Value) (r : List Value) (σ : zk_S) (sz k c : Nat), zk_run E (zk_VT E) M_X8_addLoadOf (C_X8_addLoadOf E) P PX K (n + 1) 27 [l0, l1, l2, some y3, l4, l5, l6] r (σ, sz, k, c) = (zk_isr y3 ∧ zk_run E (zk_VT E) M_X8_addLoadOf (C_X8_addLoadOf E) P PX K n 28 [l0, l1, l2, some y3, l4, l5, l6] (y3 :: r) (σ, sz, k, c))) ∧
  (∀ (n : Nat) (l0 l1 l2 l3 l4 l5 l6 : Option Value) (a : Nat) (r : List Value) (σ : zk_S) (sz k c : Nat), zk_run E (zk_VT E) M_X8_addLoadOf (C_X8_addLoadOf E) P PX K (n + 1) 28 [l0, l1, l2, l3, l4, l5, l6] (.ref a :: r) (σ, sz, k, c) = zk_fld (zk_view E σ a) [5] 0 (fun v => zk_run E (zk_VT E) M_X8_addLoadOf (C_X8_addLoadOf E) P PX K n 31 [l0, l1, l2, l3, l4, l5, l6] (v :: r) (σ, sz, k, c))) ∧
  (∀ (n : Nat) (l0 l1 l2 l3 l4 l5 l6 : Option Value) (a : Nat) (i : Int32) (r : List Value) (σ : zk_S) (sz k c : Nat), zk_run E (zk_VT E) M_X8_addLoadOf (C_X8_addLoadOf E) P PX K (n + 1) 31 [l0, l1, l2, l3, l4, l5, l6] (.int i :: .ref a :: r) (σ, sz, k, c) = zk_ild (zk_view E σ a) (zk_ar E 0) i (fun x => zk_run E (zk_VT E) M_X8_addLoadOf (C_X8_addLoadOf E) P PX K n 32 [l0, l1, l2, l3, l4, l5, l6] (.int x :: r) (σ, sz, k, c))) ∧
  (∀ (n : Nat) (l0 l1 l2 l3 l4 l5 l6 : Option Value) (x : Int32) (r : List Value) (σ : zk_S) (sz k c : Nat), zk_run E (zk_VT E) M_X8_addLoadOf (C_X8_addLoadOf E) P PX K (n + 1) 32 [l0, l1, l2, l3, l4, l5, l6] (.int x :: r) (σ, sz, k, c) = zk_run E (zk_VT E) M_X8_addLoadOf (C_X8_addLoadOf E) P PX K n 34 [l0, l1, l2, l3, zk_kl l4, some (.int x), l6] r (σ, sz, k, c)) ∧
  (∀ (n : Nat) (l0 l2 l3 l4 l5 l6 : Option Value) (y1 : Value) (r : List Value) (σ : zk_S) (sz k c : Nat), zk_run E (zk_VT E) M_X8_addLoadOf (C_X8_addLoadOf E) P PX K (n + 1) 34 [l0, some y1, l2, l3, l4, l5, l6] r (σ, sz, k, c) = (zk_isr y1 ∧ zk_run E (zk_VT E) M_X8_addLoadOf (C_X8_addLoadOf E) P PX K n 35 [l0, some y1, l2, l3, l4, l5, l6] (y1 :: r) (σ, sz, k, c))) ∧
  (∀ (n : Nat) (l0 l1 l2 l3 l4 l6 : Option Value) (y5 : Int32) (r : List Value) (σ : zk_S) (sz k c : Nat), zk_run E (zk_VT E) M_X8_addLoadOf (C_X8_addLoadOf E) P PX K (n + 1) 35 [l0, l1, l2, l3, l4, some (.int y5), l6] r (σ, sz, k, c) = zk_run E (zk_VT E) M_X8_addLoadOf (C_X8_addLoadOf E) P PX K n 37 [l0, l1, l2, l3, l4, some (.int y5), l6] (.int y5 :: r) (σ, sz, k, c)) ∧
  (∀ (n : Nat) (l0 l1 l2 l3 l4 l5 l6 : Option Value) (v0 : Value) (v1 : Value)  (σ : zk_S) (sz k c : Nat), zk_run E (zk_VT E) M_X8_addLoadOf (C_X8_addLoadOf E) P PX K (n + 1) 37 [l0, l1, l2, l3, l4, l5, l6] [v0, v1] (σ, sz, k, c) = (k + 0 ≤ 0 ∧ c + 0 ≤ 0 ∧ (zk_rv (zk_VT E) (fun ci => Nat.beq ci 4) (sp_X5_exitAt E)) [v1, v0] σ sz (fun v s2 z2 => zk_run E (zk_VT E) M_X8_addLoadOf (C_X8_addLoadOf E) P PX K n 40 [l0, l1, l2, l3, l4, l5, l6] (zk_psh v []) (s2, z2, k + 0, c + 0)) (fun X s2 z2 => PX X s2 z2))) ∧
  (∀ (n : Nat) (l0 l1 l2 l3 l4 l5 l6 : Option Value) (x : Value) (r : List Value) (σ : zk_S) (sz k c : Nat), zk_run E (zk_VT E) M_X8_addLoadOf (C_X8_addLoadOf E) P PX K (n + 1) 40 [l0, l1, l2, l3, l4, l5, l6] (x :: r) (σ, sz, k, c) = (zk_isr x ∧ zk_run E (zk_VT E) M_X8_addLoadOf (C_X8_addLoadOf E) P PX K n 42 [l0, l1, l2, l3, l4, zk_kl l5, some (x)] r (σ, sz, k, c))) ∧
  (∀ (n : Nat) (l0 l1 l2 l3 l4 l5 : Option Value) (y6 : Value) (r : List Value) (σ : zk_S) (sz k c : Nat), zk_run E (zk_VT E) M_X8_addLoadOf (C_X8_addLoadOf E) P PX K (n + 1) 42 [l0, l1, l2, l3, l4, l5, some y6] r (σ, sz, k, c) = (zk_isr y6 ∧ zk_run E (zk_VT E) M_X8_addLoadOf (C_X8_addLoadOf E) P PX K n 44 [l0, l1, l2, l3, l4, l5, some y6] (y6 :: r) (σ, sz, k, c))) ∧
  (∀ (n : Nat) (l0 l1 l2 l3 l4 l5 l6 : Option Value) (v : Value) (r : List Value) (σ : zk_S) (sz k c : Nat), zk_run E (zk_VT E) M_X8_addLoadOf (C_X8_addLoadOf E) P PX K (n + 1) 44 [l0, l1, l2, l3, l4, l5, l6] (v :: r) (σ, sz, k, c) = (zk_isr v ∧ (¬ v = .null → zk_run E (zk_VT E) M_X8_addLoadOf (C_X8_addLoadOf E) P PX K n 48 [l0, l1, l2, l3, l4, l5, l6] r (σ, sz, k, c)) ∧ (¬ (¬ v = .null) → zk_run E (zk_VT E) M_X8_addLoadOf (C_X8_addLoadOf E) P PX K n 47 [l0, l1, l2, l3, l4, l5, l6] r (σ, sz, k, c)))) ∧
  (∀ (n : Nat) (l0 l1 l2 l3 l4 l5 l6 : Option Value)   (σ : zk_S) (sz k c : Nat), zk_run E (zk_VT E) M_X8_addLoadOf (C_X8_addLoadOf E) P PX K (n + 1) 47 [l0, l1, l2, l3, l4, l5, l6] [] (σ, sz, k, c) = (P none σ sz ∧ k ≤ 0 ∧ c ≤ 0)) ∧
  (∀ (n : Nat) (l1 l2 l3 l4 l5 l6 : Option Value) (y0 : Value) (r : List Value) (σ : zk_S) (sz k c : Nat), zk_run E (zk_VT E) M_X8_addLoadOf (C_X8_addLoadOf E) P PX K (n + 1) 48 [some y0, l1, l2, l3, l4, l5, l6] r (σ, sz, k, c) = (zk_isr y0 ∧ zk_run E (zk_VT E) M_X8_addLoadOf (C_X8_addLoadOf E) P PX K n 49 [some y0, l1, l2, l3, l4, l5, l6] (y0 :: r) (σ, sz, k, c))) ∧
  (∀ (n : Nat) (l0 l1 l2 l3 l4 l5 l6 : Option Value) (a : Nat) (r : List Value) (σ : zk_S) (sz k c : Nat), zk_run E (zk_VT E) M_X8_addLoadOf (C_X8_addLoadOf E) P PX K (n + 1) 49 [l0, l1, l2, l3, l4, l5, l6] (.ref a :: r) (σ, sz, k, c) = zk_fld (zk_view E σ a) [7] 2 (fun v => zk_run E (zk_VT E) M_X8_addLoadOf (C_X8_addLoadOf E) P PX K n 52 [l0, l1, l2, l3, l4, l5, l6] (v :: r) (σ, sz, k, c))) ∧
  (∀ (n : Nat) (l0 l1 l2 l3 l4 l6 : Option Value) (y5 : Int32) (r : List Value) (σ : zk_S) (sz k c : Nat), zk_run E (zk_VT E) M_X8_addLoadOf (C_X8_addLoadOf E) P PX K (n + 1) 52 [l0, l1, l2, l3, l4, some (.int y5), l6] r (σ, sz, k, c) = zk_run E (zk_VT E) M_X8_addLoadOf (C_X8_addLoadOf E) P PX K n 54 [l0, l1, l2, l3, l4, some (.int y5), l6] (.int y5 :: r) (σ, sz, k, c)) ∧
  (∀ (n : Nat) (l0 l1 l2 l3 l4 l5 l6 : Option Value) (v u : Value) (r : List Value) (σ : zk_S) (sz k c : Nat), zk_run E (zk_VT E) M_X8_addLoadOf (C_X8_addLoadOf E) P PX K (n + 1) 54 [l0, l1, l2, l3, l4, l5, l6] (v :: u :: r) (σ, sz, k, c) = (zk_c1 v ∧ zk_c1 u ∧ zk_run E (zk_VT E) M_X8_addLoadOf (C_X8_addLoadOf E) P PX K n 55 [l0, l1, l2, l3, l4, l5, l6] (v :: u :: v :: u :: r) (σ, sz, k, c))) ∧
  (∀ (n : Nat) (l0 l1 l2 l3 l4 l5 l6 : Option Value) (a : Nat) (i : Int32) (r : List Value) (σ : zk_S) (sz k c : Nat), zk_run E (zk_VT E) M_X8_addLoadOf (C_X8_addLoadOf E) P PX K (n + 1) 55 [l0, l1, l2, l3, l4, l5, l6] (.int i :: .ref a :: r) (σ, sz, k, c) = zk_ild (zk_view E σ a) (zk_ar E 0) i (fun x => zk_run E (zk_VT E) M_X8_addLoadOf (C_X8_addLoadOf E) P PX K n 56 [l0, l1, l2, l3, l4, l5, l6] (.int x :: r) (σ, sz, k, c))) ∧
  (∀ (n : Nat) (l0 l1 l3 l4 l5 l6 : Option Value) (y2 : Value) (r : List Value) (σ : zk_S) (sz k c : Nat), zk_run E (zk_VT E) M_X8_addLoadOf (C_X8_addLoadOf E) P PX K (n + 1) 56 [l0, l1, some y2, l3, l4, l5, l6] r (σ, sz, k, c) = (zk_isr y2 ∧ zk_run E (zk_VT E) M_X8_addLoadOf (C_X8_addLoadOf E) P PX K n 57 [l0, l1, some y2, l3, l4, l5, l6] (y2 :: r) (σ, sz, k, c))) ∧
  (∀ (n : Nat) (l0 l1 l2 l3 l4 l5 l6 : Option Value) (a : Nat) (r : List Value) (σ : zk_S) (sz k c : Nat), zk_run E (zk_VT E) M_X8_addLoadOf (C_X8_addLoadOf E) P PX K (n + 1) 57 [l0, l1, l2, l3, l4, l5, l6] (.ref a :: r) (σ, sz, k, c) = zk_fld (zk_view E σ a) [5] 7 (fun v => zk_run E (zk_VT E) M_X8_addLoadOf (C_X8_addLoadOf E) P PX K n 60 [l0, l1, l2, l3, l4, l5, l6] (v :: r) (σ, sz, k, c))) ∧
  (∀ (n : Nat) (l0 l1 l2 l3 l4 l5 l6 : Option Value) (x y : Int32) (r : List Value) (σ : zk_S) (sz k c : Nat), zk_run E (zk_VT E) M_X8_addLoadOf (C_X8_addLoadOf E) P PX K (n + 1) 60 [l0, l1, l2, l3, l4, l5, l6] (.int y :: .int x :: r) (σ, sz, k, c) = zk_run E (zk_VT E) M_X8_addLoadOf (C_X8_addLoadOf E) P PX K n 61 [l0, l1, l2, l3, l4, l5, l6] (.int (x + y) :: r) (σ, sz, k, c)) ∧
  (∀ (n : Nat) (l0 l1 l2 l3 l4 l5 l6 : Option Value) (a : Nat) (i x : Int32) (r : List Value) (σ : zk_S) (sz k c : Nat), zk_run E (zk_VT E) M_X8_addLoadOf (C_X8_addLoadOf E) P PX K (n + 1) 61 [l0, l1, l2, l3, l4, l5, l6] (.int x :: .int i :: .ref a :: r) (σ, sz, k, c) = zk_ist (zk_view E σ a) (zk_ar E 0) i x (fun e => zk_wrok E σ a e ∧ zk_run E (zk_VT E) M_X8_addLoadOf (C_X8_addLoadOf E) P PX K n 62 [l0, l1, l2, l3, l4, l5, l6] r (zk_wr E σ a e, sz, k, c))) ∧
  (∀ (n : Nat) (l0 l1 l2 l3 l4 l5 : Option Value) (y6 : Value) (r : List Value) (σ : zk_S) (sz k c : Nat), zk_run E (zk_VT E) M_X8_addLoadOf (C_X8_addLoadOf E) P PX K (n + 1) 62 [l0, l1, l2, l3, l4, l5, some y6] r (σ, sz, k, c) = (zk_isr y6 ∧ zk_run E (zk_VT E) M_X8_addLoadOf (C_X8_addLoadOf E) P PX K n 64 [l0, l1, l2, l3, l4, l5, some y6] (y6 :: r) (σ, sz, k, c))) ∧
  (∀ (n : Nat) (l0 l1 l2 l4 l5 l6 : Option Value) (y3 : Value) (r : List Value) (σ : zk_S) (sz k c : Nat), zk_run E (zk_VT E) M_X8_addLoadOf (C_X8_addLoadOf E) P PX K (n + 1) 64 [l0, l1, l2, some y3, l4, l5, l6] r (σ, sz, k, c) = (zk_isr y3 ∧ zk_run E (zk_VT E) M_X8_addLoadOf (C_X8_addLoadOf E) P PX K n 65 [l0, l1, l2, some y3, l4, l5, l6] (y3 :: r) (σ, sz, k, c))) ∧
  (∀ (n : Nat) (l0 l1 l2 l3 l4 l5 l6 : Option Value) (v0 : Value) (v1 : Value)  (σ : zk_S) (sz k c : Nat), zk_run E (zk_VT E) M_X8_addLoadOf (C_X8_addLoadOf E) P PX K (n + 1) 65 [l0, l1, l2, l3, l4, l5, l6] [v0, v1] (σ, sz, k, c) = (k + 0 ≤ 0 ∧ c + 0 ≤ 0 ∧ (zk_rv (zk_VT E) (fun ci => Nat.beq ci 1 || Nat.beq ci 6) (sp_X2_otherThan E)) [v1, v0] σ sz (fun v s2 z2 => zk_run E (zk_VT E) M_X8_addLoadOf (C_X8_addLoadOf E) P PX K n 68 [l0, l1, l2, l3, l4, l5, l6] (zk_psh v []) (s2, z2, k + 0, c + 0)) (fun X s2 z2 => PX X s2 z2))) ∧
  (∀ (n : Nat) (l0 l1 l2 l3 l4 l5 l6 : Option Value) (x : Value) (r : List Value) (σ : zk_S) (sz k c : Nat), zk_run E (zk_VT E) M_X8_addLoadOf (C_X8_addLoadOf E) P PX K (n + 1) 68 [l0, l1, l2, l3, l4, l5, l6] (x :: r) (σ, sz, k, c) = (zk_isr x ∧ zk_run E (zk_VT E) M_X8_addLoadOf (C_X8_addLoadOf E) P PX K n 69 [l0, l1, zk_kl l2, some (x), l4, l5, l6] r (σ, sz, k, c))) ∧
  (∀ (n : Nat) (l0 l1 l2 l3 l5 l6 : Option Value) (y4 : Int32) (r : List Value) (σ : zk_S) (sz k c : Nat), zk_run E (zk_VT E) M_X8_addLoadOf (C_X8_addLoadOf E) P PX K (n + 1) 69 [l0, l1, l2, l3, some (.int y4), l5, l6] r (σ, sz, k, c) = zk_run E (zk_VT E) M_X8_addLoadOf (C_X8_addLoadOf E) P PX K n 72 [l0, l1, l2, zk_kl l3, some (.int (y4 + 1)), l5, l6] r (σ, sz, k, c)) := ⟨by intros; rfl, by intros; rfl, by intros; rfl, by intros; rfl, by intros; rfl, by intros; rfl, by intros; rfl, by intros; rfl, by intros; rfl, by intros; rfl, by intros; rfl, by intros; rfl, by intros; rfl, by intros; rfl, by intros; rfl, by intros; rfl, by intros; rfl, by intros; rfl, by intros; rfl, by intros; rfl, by intros; rfl, by intros; rfl, by intros; rfl, by intros; rfl, by intros; rfl, by intros; rfl, by intros; rfl, by intros; rfl, by intros; rfl, by intros; rfl, by intros; rfl, by intros; rfl, by intros; rfl, by intros; rfl, by intros; rfl, by intros; rfl, by intros; rfl, by intros; rfl, by intros; rfl, by intros; rfl⟩
theorem r_X8_addLoadOf_1 (E : zk_E) (P : zk_P zk_S) (PX : zk_X zk_S) (K : Nat → zk_L → List Value → zk_W zk_S → Prop) : (∀ (n : Nat) (l0 l1 l2 l3 l4 l5 l6 : Option Value)  (r : List Value) (σ : zk_S) (sz k c : Nat), zk_run E (zk_VT E) M_X8_addLoadOf (C_X8_addLoadOf E) P PX K (n + 1) 72 [l0, l1, l2, l3, l4, l5, l6] r (σ, sz, k, c) = zk_run E (zk_VT E) M_X8_addLoadOf (C_X8_addLoadOf E) P PX K n 5 [l0, l1, l2, l3, l4, l5, l6] r (σ, sz, k, c)) ∧
  (∀ (n : Nat) (l0 l1 l2 l3 l4 l5 l6 : Option Value)   (σ : zk_S) (sz k c : Nat), zk_run E (zk_VT E) M_X8_addLoadOf (C_X8_addLoadOf E) P PX K (n + 1) 75 [l0, l1, l2, l3, l4, l5, l6] [] (σ, sz, k, c) = (P none σ sz ∧ k ≤ 0 ∧ c ≤ 0)) ∧
  (∀ (n : Nat) (l0 l1 l2 l3 l4 l5 l6 : Option Value) (r : List Value) (w : zk_W zk_S), zk_go E (zk_VT E) M_X8_addLoadOf (C_X8_addLoadOf E) P PX K n 0 [l0, l1, l2, l3, l4, l5, l6] r w = zk_run E (zk_VT E) M_X8_addLoadOf (C_X8_addLoadOf E) P PX K (n + 1) 0 [l0, l1, l2, l3, l4, l5, l6] r w) ∧
  (∀ (n : Nat) (l0 l1 l2 l4 l5 l6 : Option Value) (y3 : Value) (r : List Value) (σ : zk_S) (sz k c : Nat), zk_go E (zk_VT E) M_X8_addLoadOf (C_X8_addLoadOf E) P PX K n 5 [l0, l1, l2, some y3, l4, l5, l6] r (σ, sz, k, c) = (zk_isr y3 ∧ zk_run E (zk_VT E) M_X8_addLoadOf (C_X8_addLoadOf E) P PX K n 6 [l0, l1, l2, some y3, l4, l5, l6] (y3 :: r) (σ, sz, k, c))) := ⟨by intros; rfl, by intros; rfl, by intros; rfl, by intros; rfl⟩
theorem vc_X8_addLoadOf (E : zk_E) : zk_VC E (zk_VT E) M_X8_addLoadOf (C_X8_addLoadOf E) 7 (sp_X8_addLoadOf E) := by
  intro av σ sz P PX h
  obtain ⟨J, N, Q, O, U⟩ := σ
  unfold sp_X8_addLoadOf at h
  split at h
  case h_2 => exact h.elim
  rename_i a0 p b
  obtain ⟨rfl, h⟩ := h
  refine ⟨Nat.le_of_ble_eq_true rfl, fun G hG => ?_⟩
  change G 0 [some (.ref (zk_ad E 7)), some (.ref p), some (.ref b), none, none, none, none] [] ((J, N, Q, O, U), sz, 0, 0)
  try dsimp only at h
  obtain ⟨rfl, J1, N1, fl, k, hmi, hxr, hwl, hwd, hk, hb, h⟩ := h
  obtain ⟨hj, hbo, hOb⟩ := hxr.2.1.back hk hb
  have hb : Q 2 k = some b := hb
  have hOb : O b = some (xrm N1 k) := hOb
  have hb1 := hbo.1
  have b0 : ∀ F : Value → Prop, zk_fld (O b) [5] 0 F = F (.int (nI k)) := fun F => by rw [hOb]; simp [zk_fld_o, xrm, cR, zk_nth]
  have b7 : ∀ F : Value → Prop, zk_fld (O b) [5] 7 F = F (.int (N1 29 k)) := fun F => by rw [hOb]; simp [zk_fld_o, xrm, cR, zk_nth]
  have ink : vp_in (nI k) 20 := n_in hk (by decide)
  have clk : (nI k).toNatClampNeg = k := n_cl (by omega)
  have h14 : N 14 k = g_deep J1 N1 k := hwd k hk
  rcases g_dep_cases J1 N1 21 (nI k) 0 with q2 | ⟨t, t1, t2, q2⟩
  · have qd : g_deep J1 N1 k = -1 := q2
    have e0 : (fun i => if g_deep J1 N1 k = -1 then N 10 i else g_ldp J1 N1 i (N1 29 k) 21 (nI k) (N 10 i)) = N 10 := by funext i; rw [if_pos qd]
    rw [e0, zk_un_self N 10] at h
    rw [qd] at h14
    have c1 : (-1 : Int32) ≤ 0 := by decide
    have g0 : G 5 [some (.ref (zk_ad E 7)), some (.ref (zk_ad E 1)), some (.ref b), some (.ref b), some (.int 0), none, none] [] ((J, N, Q, O, U), sz, 0, 0) := by
      (refine hG 900 _ _ _ _ ?_; simp only [r_X8_addLoadOf, r_X8_addLoadOf_1, zk_vd hb1, b0, ink, clk, h14, c1])
      exact h
    (refine hG 900 _ _ _ _ ?_; simp only [r_X8_addLoadOf, r_X8_addLoadOf_1])
    exact g0
  · have qd : ¬ g_deep J1 N1 k = -1 := by rw [show g_deep J1 N1 k = nI t from q2]; exact nI_ne1 (by omega)
    have e0 : (fun i => if g_deep J1 N1 k = -1 then N 10 i else g_ldp J1 N1 i (N1 29 k) 21 (nI k) (N 10 i)) = fun i => g_ldp J1 N1 i (N1 29 k) 21 (nI k) (N 10 i) := by funext i; rw [if_neg qd]
    rw [e0] at h
    rw [show g_deep J1 N1 k = nI t from q2] at h14
    have hx : ∀ L, XR E sz (J, zk_un N 10 L, Q, O, U) J1 N1 fl := fun _ => hxr.cn rfl rfl
    have loop : ∀ f m x L l5 l6, m + f = 21 → (x = -1 ∨ ∃ q, MR J1 N1 q ∧ x = nI q) → g_dep J1 N1 f x m = nI t → (fun i => g_ldp J1 N1 i (N1 29 k) f x (L i)) = (fun i => g_ldp J1 N1 i (N1 29 k) 21 (nI k) (N 10 i)) → ∀ v, v = va_rf (rq Q x) → G 5 [some (.ref (zk_ad E 7)), some (.ref (zk_ad E 1)), some (.ref b), some v, some (.int (nI m)), l5, l6] [] ((J, zk_un N 10 L, Q, O, U), sz, 0, 0) := by
      intro f
      induction f with
      | zero =>
        intro m x L l5 l6 hm hx hd
        have : g_dep J1 N1 0 x m = -1 := rfl
        rw [this] at hd
        exact absurd hd.symm (nI_ne1 (by omega))
      | succ f ih =>
        intro m x L l5 l6 hm hxx hd hP v hv
        rw [g_dep_eq] at hd
        rcases hxx with rfl | ⟨q, hq, rfl⟩
        · have hv2 : v = .null := by rw [hv]; unfold rq; rw [if_pos rfl]; rfl
          subst hv2
          have eL : L = (fun i => g_ldp J1 N1 i (N1 29 k) 21 (nI k) (N 10 i)) := by
            rw [← hP]
            funext i
            rw [g_ldp_eq, if_pos rfl]
          rw [← eL] at h
          (refine hG 900 _ _ _ _ ?_; simp only [r_X8_addLoadOf, r_X8_addLoadOf_1])
          exact h
        · have hq20 := hq.lt hmi
          obtain ⟨a, ha, hao, hOa⟩ := hxr.2.1.room hmi hq
          have ha : Q 2 q = some a := ha
          have hOa : O a = some (xrm N1 q) := hOa
          have hv2 : v = .ref a := by rw [hv]; unfold rq; rw [if_neg (nI_ne1 (by omega)), n_cl (by omega), ha]; rfl
          subst hv2
          rw [if_neg (nI_ne1 (by omega)), n_cl (by omega)] at hd
          have ha1 := hao.1
          have g0 : ∀ F : Value → Prop, zk_fld (O a) [5] 0 F = F (.int (nI q)) := fun F => by rw [hOa]; simp [zk_fld_o, xrm, cR, zk_nth]
          have hin : vp_in (nI q) 20 := n_in hq20 (by decide)
          have hcl : (nI q).toNatClampNeg = q := n_cl (by omega)
          have h11 := hwl q hq20
          by_cases z : lea J1 N1 q = 100
          · rw [if_pos z] at hd
            exact absurd hd.symm (nI_ne1 (by omega))
          · rw [if_neg z] at hd
            have hl := lea_act z
            have he := (m_act_mem.mp hl.1).1
            have tm : m + 1 ≤ t := by
              rcases g_dep_cases J1 N1 f (m_into N1 (lea J1 N1 q)) (m + 1) with w | ⟨t', w1, w2, w3⟩
              · rw [w] at hd; exact absurd hd.symm (nI_ne1 (by omega))
              · rw [w3, n_inj (by omega) (by omega)] at hd; omega
            have c1 : ¬ nI t ≤ nI m := nI_ge (by omega) (by omega)
            obtain ⟨c, hc, hco, hcX, ⟨ci, hci, hic⟩, hoth⟩ := hxr.oth hmi hl.1 hq hl.2.1 ha
            have hc : xat Q (lea J1 N1 q / 2) = some c := hc
            have hcX : isX (O c) := hcX
            have hic : ∀ k, zk_is (O c) k = (k ci = true) := hic
            have hoth : x_oth (O c) a = rq Q (m_into N1 (lea J1 N1 q)) := hoth
            have hc1 := hco.1
            have kk : (Nat.beq ci 1 || Nat.beq ci 6) = true := by rcases hci with rfl | rfl <;> rfl
            have hb11 : N 11 q = nI (lea J1 N1 q / 2) := by rw [show N 11 q = _ from h11]; unfold bex; rw [if_neg z]
            have c3 := n_isIn49 (i := lea J1 N1 q / 2) (by omega)
            have hcl2 : (nI (lea J1 N1 q / 2)).toNatClampNeg = lea J1 N1 q / 2 := n_cl (by omega)
            have in50 : vp_in (nI (lea J1 N1 q / 2)) 50 := n_in (by omega) (by decide)
            have ih2 := fun l5 l6 => ih (m + 1) (m_into N1 (lea J1 N1 q)) (upd L (lea J1 N1 q / 2) (L (lea J1 N1 q / 2) + N1 29 k)) l5 l6 (by omega) (by
              obtain ⟨r, -, -, w | ⟨q2, w1, w2, w3⟩⟩ := m_ends hmi hl.1
              · exact Or.inl w
              · exact Or.inr ⟨q2, w1, w3⟩) hd (by
              rw [← hP]
              funext i
              rw [g_ldp_eq, if_neg (nI_ne1 (by omega)), n_cl (by omega)]
              congr 1
              by_cases y : lea J1 N1 q / 2 = i
              · rw [← y, upd_self, if_pos rfl]
              · rw [upd_ne _ _ (fun w => y w.symm), if_neg y, Int32.add_zero]) _ rfl
            (refine hG 900 _ _ _ _ ?_; simp only [r_X8_addLoadOf, r_X8_addLoadOf_1, c1, zk_vd ha1, zk_vd hb1, b0, b7, ink, clk, h14, g0, hin, hcl, hb11, spe_X5_exitAt, c3, hcl2, in50, hc, va_rf_s, Bool.true_eq_false, zk_vd hc1, hic, kk, spe_X2_otherThan, hc1, hcX, hoth, n_succ, zk_un_un])
            exact ih2 _ _
    have l0 := loop 21 0 (nI k) (N 10) none none (by omega) (Or.inr ⟨k, hj, rfl⟩) q2 rfl (.ref b) (by unfold rq; rw [if_neg (nI_ne1 (by omega)), n_cl (by omega), hb]; rfl)
    rw [zk_un_self N 10] at l0
    (refine hG 900 _ _ _ _ ?_; simp only [r_X8_addLoadOf, r_X8_addLoadOf_1])
    exact l0
theorem ct_X8_addLoadOf {l : Launch} (hl : l.stackTraces = false) (E : zk_E) : zk_C l E (zk_VT E) yX8_addLoadOf cX8_addLoadOf 7 (none) rm_X8_addLoadOf (sp_X8_addLoadOf E) := by
  refine zk_meth (M := M_X8_addLoadOf) (C := C_X8_addLoadOf E) hl (by decide +kernel) rfl (fun _ _ => rfl) (zk_VT_ok E) MO_X8_addLoadOf TO_X8_addLoadOf THo_X8_addLoadOf ?_ (vc_X8_addLoadOf E)
  exact fun p e s m args below meth c X pc n mc ms sp2 h => by
    have h2 := zk_lka_mem h
    simp only [List.mem_cons, List.not_mem_nil, or_false, Prod.mk.injEq] at h2
    rcases h2 with ⟨rfl, rfl, rfl, rfl, rfl⟩ | ⟨rfl, rfl, rfl, rfl, rfl⟩
    · exact zk_coV (idx := 33) X (ct_X5_exitAt hl E) (List.forall_mem_cons.mpr ⟨zk_wi 118 (by decide +kernel) rfl, List.forall_mem_cons.mpr ⟨zk_wi 119 (by decide +kernel) rfl, List.forall_mem_cons.mpr ⟨zk_wi 120 (by decide +kernel) rfl, List.forall_mem_cons.mpr ⟨zk_wi 3 (by decide +kernel) rfl, List.forall_mem_cons.mpr ⟨zk_wi 121 (by decide +kernel) rfl, fun _ h => absurd h List.not_mem_nil⟩⟩⟩⟩⟩) (fun ci h => by
      have h := Nat.eq_of_beq_eq_true h
      subst h
      exact ⟨_, _, rfl⟩) (by decide +kernel) ⟨by decide, by decide, by decide +kernel⟩ ⟨by decide, by decide⟩
    · exact zk_coU (idx := 120) (x := ⟨"ClerestoryPlan$Exit", "otherThan", "(LClerestoryPlan$Room;)LClerestoryPlan$Room;"⟩) X (ct_X2_otherThan hl E) (List.forall_mem_cons.mpr ⟨zk_wi 169 (by decide +kernel) rfl, List.forall_mem_cons.mpr ⟨zk_wi 171 (by decide +kernel) rfl, List.forall_mem_cons.mpr ⟨zk_wi 170 (by decide +kernel) rfl, List.forall_mem_cons.mpr ⟨zk_wi 16 (by decide +kernel) rfl, List.forall_mem_cons.mpr ⟨zk_wi 174 (by decide +kernel) rfl, fun _ h => absurd h List.not_mem_nil⟩⟩⟩⟩⟩) (fun ci h => by
      rw [Bool.or_eq_true] at h
      rcases h with h | h
      · have h := Nat.eq_of_beq_eq_true h
        subst h
        exact ⟨_, _, _, rfl, zk_wi 172 (by decide +kernel) rfl⟩
      · have h := Nat.eq_of_beq_eq_true h
        subst h
        exact ⟨_, _, _, rfl, zk_wi 173 (by decide +kernel) rfl⟩) rfl (by decide +kernel) ⟨by decide, by decide, by decide +kernel⟩ ⟨by decide, by decide⟩
def sp_X8_reckonLoads (E : zk_E) : zk_Sp zk_S := fun av σ sz P PX => match av with
  | [.ref a, .ref p] => a = zk_ad E 7 ∧ p = zk_ad E 1 ∧ ∃ J N fl, MI J N ∧ XR E sz σ J N fl ∧ WLv J N σ.2.1 ∧ WDp J N σ.2.1 ∧ ∀ L, (∀ k, k < 50 → L k = a_load J N k) → P none (σ.1, zk_un σ.2.1 10 L, σ.2.2) sz
  | _ => False
theorem spe_X8_reckonLoads (E : zk_E) (a : Nat) (p : Nat) (σ : zk_S) (sz : Nat) (P : zk_P zk_S) (PX : zk_X zk_S) : sp_X8_reckonLoads E [.ref a, .ref p] σ sz P PX = (a = zk_ad E 7 ∧ p = zk_ad E 1 ∧ ∃ J N fl, MI J N ∧ XR E sz σ J N fl ∧ WLv J N σ.2.1 ∧ WDp J N σ.2.1 ∧ ∀ L, (∀ k, k < 50 → L k = a_load J N k) → P none (σ.1, zk_un σ.2.1 10 L, σ.2.2) sz) := propext Iff.rfl
def C_X8_reckonLoads (E : zk_E) : zk_Cl zk_S := zk_lka [(53, 3, 0, 0, zk_rv (zk_VT E) (fun ci => Nat.beq ci 7) (sp_X8_addLoadOf E))]
theorem r_X8_reckonLoads (E : zk_E) (P : zk_P zk_S) (PX : zk_X zk_S) (K : Nat → zk_L → List Value → zk_W zk_S → Prop) : (∀ (n : Nat) (l0 l1 l2 l3 l4 l5 : Option Value)  (r : List Value) (σ : zk_S) (sz k c : Nat), zk_run E (zk_VT E) M_X8_reckonLoads (C_X8_reckonLoads E) P PX K (n + 1) 0 [l0, l1, l2, l3, l4, l5] r (σ, sz, k, c) = zk_run E (zk_VT E) M_X8_reckonLoads (C_X8_reckonLoads E) P PX K n 1 [l0, l1, l2, l3, l4, l5] (.int (0) :: r) (σ, sz, k, c)) ∧
  (∀ (n : Nat) (l0 l1 l2 l3 l4 l5 : Option Value) (x : Int32) (r : List Value) (σ : zk_S) (sz k c : Nat), zk_run E (zk_VT E) M_X8_reckonLoads (C_X8_reckonLoads E) P PX K (n + 1) 1 [l0, l1, l2, l3, l4, l5] (.int x :: r) (σ, sz, k, c) = zk_run E (zk_VT E) M_X8_reckonLoads (C_X8_reckonLoads E) P PX K n 2 [l0, zk_kl l1, some (.int x), l3, l4, l5] r (σ, sz, k, c)) ∧
  (∀ (n : Nat) (l0 l1 l2 l3 l4 l5 : Option Value)  (r : List Value) (σ : zk_S) (sz k c : Nat), zk_run E (zk_VT E) M_X8_reckonLoads (C_X8_reckonLoads E) P PX K (n + 1) 2 [l0, l1, l2, l3, l4, l5] r (σ, sz, k, c) = K 2 [l0, l1, l2, l3, l4, l5] r (σ, sz, k, c)) ∧
  (∀ (n : Nat) (l0 l1 l2 l3 l4 l5 : Option Value)  (r : List Value) (σ : zk_S) (sz k c : Nat), zk_run E (zk_VT E) M_X8_reckonLoads (C_X8_reckonLoads E) P PX K (n + 1) 3 [l0, l1, l2, l3, l4, l5] r (σ, sz, k, c) = zk_run E (zk_VT E) M_X8_reckonLoads (C_X8_reckonLoads E) P PX K n 5 [l0, l1, l2, l3, l4, l5] (.int (50) :: r) (σ, sz, k, c)) ∧
  (∀ (n : Nat) (l0 l1 l2 l3 l4 l5 : Option Value) (x y : Int32) (r : List Value) (σ : zk_S) (sz k c : Nat), zk_run E (zk_VT E) M_X8_reckonLoads (C_X8_reckonLoads E) P PX K (n + 1) 5 [l0, l1, l2, l3, l4, l5] (.int y :: .int x :: r) (σ, sz, k, c) = ((y ≤ x → zk_run E (zk_VT E) M_X8_reckonLoads (C_X8_reckonLoads E) P PX K n 21 [l0, l1, l2, l3, l4, l5] r (σ, sz, k, c)) ∧ (¬ (y ≤ x) → zk_run E (zk_VT E) M_X8_reckonLoads (C_X8_reckonLoads E) P PX K n 8 [l0, l1, l2, l3, l4, l5] r (σ, sz, k, c)))) ∧
  (∀ (n : Nat) (l1 l2 l3 l4 l5 : Option Value) (y0 : Value) (r : List Value) (σ : zk_S) (sz k c : Nat), zk_run E (zk_VT E) M_X8_reckonLoads (C_X8_reckonLoads E) P PX K (n + 1) 8 [some y0, l1, l2, l3, l4, l5] r (σ, sz, k, c) = (zk_isr y0 ∧ zk_run E (zk_VT E) M_X8_reckonLoads (C_X8_reckonLoads E) P PX K n 9 [some y0, l1, l2, l3, l4, l5] (y0 :: r) (σ, sz, k, c))) ∧
  (∀ (n : Nat) (l0 l1 l2 l3 l4 l5 : Option Value) (a : Nat) (r : List Value) (σ : zk_S) (sz k c : Nat), zk_run E (zk_VT E) M_X8_reckonLoads (C_X8_reckonLoads E) P PX K (n + 1) 9 [l0, l1, l2, l3, l4, l5] (.ref a :: r) (σ, sz, k, c) = zk_fld (zk_view E σ a) [7] 2 (fun v => zk_run E (zk_VT E) M_X8_reckonLoads (C_X8_reckonLoads E) P PX K n 12 [l0, l1, l2, l3, l4, l5] (v :: r) (σ, sz, k, c))) ∧
  (∀ (n : Nat) (l0 l1 l3 l4 l5 : Option Value) (y2 : Int32) (r : List Value) (σ : zk_S) (sz k c : Nat), zk_run E (zk_VT E) M_X8_reckonLoads (C_X8_reckonLoads E) P PX K (n + 1) 12 [l0, l1, some (.int y2), l3, l4, l5] r (σ, sz, k, c) = zk_run E (zk_VT E) M_X8_reckonLoads (C_X8_reckonLoads E) P PX K n 13 [l0, l1, some (.int y2), l3, l4, l5] (.int y2 :: r) (σ, sz, k, c)) ∧
  (∀ (n : Nat) (l0 l1 l2 l3 l4 l5 : Option Value)  (r : List Value) (σ : zk_S) (sz k c : Nat), zk_run E (zk_VT E) M_X8_reckonLoads (C_X8_reckonLoads E) P PX K (n + 1) 13 [l0, l1, l2, l3, l4, l5] r (σ, sz, k, c) = zk_run E (zk_VT E) M_X8_reckonLoads (C_X8_reckonLoads E) P PX K n 14 [l0, l1, l2, l3, l4, l5] (.int (0) :: r) (σ, sz, k, c)) ∧
  (∀ (n : Nat) (l0 l1 l2 l3 l4 l5 : Option Value) (a : Nat) (i x : Int32) (r : List Value) (σ : zk_S) (sz k c : Nat), zk_run E (zk_VT E) M_X8_reckonLoads (C_X8_reckonLoads E) P PX K (n + 1) 14 [l0, l1, l2, l3, l4, l5] (.int x :: .int i :: .ref a :: r) (σ, sz, k, c) = zk_ist (zk_view E σ a) (zk_ar E 0) i x (fun e => zk_wrok E σ a e ∧ zk_run E (zk_VT E) M_X8_reckonLoads (C_X8_reckonLoads E) P PX K n 15 [l0, l1, l2, l3, l4, l5] r (zk_wr E σ a e, sz, k, c))) ∧
  (∀ (n : Nat) (l0 l1 l3 l4 l5 : Option Value) (y2 : Int32) (r : List Value) (σ : zk_S) (sz k c : Nat), zk_run E (zk_VT E) M_X8_reckonLoads (C_X8_reckonLoads E) P PX K (n + 1) 15 [l0, l1, some (.int y2), l3, l4, l5] r (σ, sz, k, c) = zk_run E (zk_VT E) M_X8_reckonLoads (C_X8_reckonLoads E) P PX K n 18 [l0, zk_kl l1, some (.int (y2 + 1)), l3, l4, l5] r (σ, sz, k, c)) ∧
  (∀ (n : Nat) (l0 l1 l2 l3 l4 l5 : Option Value)  (r : List Value) (σ : zk_S) (sz k c : Nat), zk_run E (zk_VT E) M_X8_reckonLoads (C_X8_reckonLoads E) P PX K (n + 1) 18 [l0, l1, l2, l3, l4, l5] r (σ, sz, k, c) = zk_run E (zk_VT E) M_X8_reckonLoads (C_X8_reckonLoads E) P PX K n 2 [l0, l1, l2, l3, l4, l5] r (σ, sz, k, c)) ∧
  (∀ (n : Nat) (l0 l2 l3 l4 l5 : Option Value) (y1 : Value) (r : List Value) (σ : zk_S) (sz k c : Nat), zk_run E (zk_VT E) M_X8_reckonLoads (C_X8_reckonLoads E) P PX K (n + 1) 21 [l0, some y1, l2, l3, l4, l5] r (σ, sz, k, c) = (zk_isr y1 ∧ zk_run E (zk_VT E) M_X8_reckonLoads (C_X8_reckonLoads E) P PX K n 22 [l0, some y1, l2, l3, l4, l5] (y1 :: r) (σ, sz, k, c))) ∧
  (∀ (n : Nat) (l0 l1 l2 l3 l4 l5 : Option Value) (a : Nat) (r : List Value) (σ : zk_S) (sz k c : Nat), zk_run E (zk_VT E) M_X8_reckonLoads (C_X8_reckonLoads E) P PX K (n + 1) 22 [l0, l1, l2, l3, l4, l5] (.ref a :: r) (σ, sz, k, c) = zk_fld (zk_view E σ a) [4] 0 (fun v => zk_run E (zk_VT E) M_X8_reckonLoads (C_X8_reckonLoads E) P PX K n 25 [l0, l1, l2, l3, l4, l5] (v :: r) (σ, sz, k, c))) ∧
  (∀ (n : Nat) (l0 l1 l2 l3 l4 l5 : Option Value) (x : Value) (r : List Value) (σ : zk_S) (sz k c : Nat), zk_run E (zk_VT E) M_X8_reckonLoads (C_X8_reckonLoads E) P PX K (n + 1) 25 [l0, l1, l2, l3, l4, l5] (x :: r) (σ, sz, k, c) = (zk_isr x ∧ zk_run E (zk_VT E) M_X8_reckonLoads (C_X8_reckonLoads E) P PX K n 26 [l0, zk_kl l1, some (x), l3, l4, l5] r (σ, sz, k, c))) ∧
  (∀ (n : Nat) (l0 l1 l3 l4 l5 : Option Value) (y2 : Value) (r : List Value) (σ : zk_S) (sz k c : Nat), zk_run E (zk_VT E) M_X8_reckonLoads (C_X8_reckonLoads E) P PX K (n + 1) 26 [l0, l1, some y2, l3, l4, l5] r (σ, sz, k, c) = (zk_isr y2 ∧ zk_run E (zk_VT E) M_X8_reckonLoads (C_X8_reckonLoads E) P PX K n 27 [l0, l1, some y2, l3, l4, l5] (y2 :: r) (σ, sz, k, c))) ∧
  (∀ (n : Nat) (l0 l1 l2 l3 l4 l5 : Option Value) (a : Nat) (r : List Value) (σ : zk_S) (sz k c : Nat), zk_run E (zk_VT E) M_X8_reckonLoads (C_X8_reckonLoads E) P PX K (n + 1) 27 [l0, l1, l2, l3, l4, l5] (.ref a :: r) (σ, sz, k, c) = zk_lenq E (zk_view E σ a) (fun x => zk_run E (zk_VT E) M_X8_reckonLoads (C_X8_reckonLoads E) P PX K n 28 [l0, l1, l2, l3, l4, l5] (.int x :: r) (σ, sz, k, c))) ∧
  (∀ (n : Nat) (l0 l1 l2 l3 l4 l5 : Option Value) (x : Int32) (r : List Value) (σ : zk_S) (sz k c : Nat), zk_run E (zk_VT E) M_X8_reckonLoads (C_X8_reckonLoads E) P PX K (n + 1) 28 [l0, l1, l2, l3, l4, l5] (.int x :: r) (σ, sz, k, c) = zk_run E (zk_VT E) M_X8_reckonLoads (C_X8_reckonLoads E) P PX K n 29 [l0, l1, zk_kl l2, some (.int x), l4, l5] r (σ, sz, k, c)) ∧
  (∀ (n : Nat) (l0 l1 l2 l3 l4 l5 : Option Value)  (r : List Value) (σ : zk_S) (sz k c : Nat), zk_run E (zk_VT E) M_X8_reckonLoads (C_X8_reckonLoads E) P PX K (n + 1) 29 [l0, l1, l2, l3, l4, l5] r (σ, sz, k, c) = zk_run E (zk_VT E) M_X8_reckonLoads (C_X8_reckonLoads E) P PX K n 30 [l0, l1, l2, l3, l4, l5] (.int (0) :: r) (σ, sz, k, c)) ∧
  (∀ (n : Nat) (l0 l1 l2 l3 l4 l5 : Option Value) (x : Int32) (r : List Value) (σ : zk_S) (sz k c : Nat), zk_run E (zk_VT E) M_X8_reckonLoads (C_X8_reckonLoads E) P PX K (n + 1) 30 [l0, l1, l2, l3, l4, l5] (.int x :: r) (σ, sz, k, c) = zk_run E (zk_VT E) M_X8_reckonLoads (C_X8_reckonLoads E) P PX K n 32 [l0, l1, l2, zk_kl l3, some (.int x), l5] r (σ, sz, k, c)) ∧
  (∀ (n : Nat) (l0 l1 l2 l3 l4 l5 : Option Value)  (r : List Value) (σ : zk_S) (sz k c : Nat), zk_run E (zk_VT E) M_X8_reckonLoads (C_X8_reckonLoads E) P PX K (n + 1) 32 [l0, l1, l2, l3, l4, l5] r (σ, sz, k, c) = K 32 [l0, l1, l2, l3, l4, l5] r (σ, sz, k, c)) ∧
  (∀ (n : Nat) (l0 l1 l2 l4 l5 : Option Value) (y3 : Int32) (r : List Value) (σ : zk_S) (sz k c : Nat), zk_run E (zk_VT E) M_X8_reckonLoads (C_X8_reckonLoads E) P PX K (n + 1) 34 [l0, l1, l2, some (.int y3), l4, l5] r (σ, sz, k, c) = zk_run E (zk_VT E) M_X8_reckonLoads (C_X8_reckonLoads E) P PX K n 35 [l0, l1, l2, some (.int y3), l4, l5] (.int y3 :: r) (σ, sz, k, c)) ∧
  (∀ (n : Nat) (l0 l1 l2 l3 l4 l5 : Option Value) (x y : Int32) (r : List Value) (σ : zk_S) (sz k c : Nat), zk_run E (zk_VT E) M_X8_reckonLoads (C_X8_reckonLoads E) P PX K (n + 1) 35 [l0, l1, l2, l3, l4, l5] (.int y :: .int x :: r) (σ, sz, k, c) = ((y ≤ x → zk_run E (zk_VT E) M_X8_reckonLoads (C_X8_reckonLoads E) P PX K n 62 [l0, l1, l2, l3, l4, l5] r (σ, sz, k, c)) ∧ (¬ (y ≤ x) → zk_run E (zk_VT E) M_X8_reckonLoads (C_X8_reckonLoads E) P PX K n 38 [l0, l1, l2, l3, l4, l5] r (σ, sz, k, c)))) ∧
  (∀ (n : Nat) (l0 l1 l3 l4 l5 : Option Value) (y2 : Value) (r : List Value) (σ : zk_S) (sz k c : Nat), zk_run E (zk_VT E) M_X8_reckonLoads (C_X8_reckonLoads E) P PX K (n + 1) 38 [l0, l1, some y2, l3, l4, l5] r (σ, sz, k, c) = (zk_isr y2 ∧ zk_run E (zk_VT E) M_X8_reckonLoads (C_X8_reckonLoads E) P PX K n 39 [l0, l1, some y2, l3, l4, l5] (y2 :: r) (σ, sz, k, c))) ∧
  (∀ (n : Nat) (l0 l1 l2 l3 l5 : Option Value) (y4 : Int32) (r : List Value) (σ : zk_S) (sz k c : Nat), zk_run E (zk_VT E) M_X8_reckonLoads (C_X8_reckonLoads E) P PX K (n + 1) 39 [l0, l1, l2, l3, some (.int y4), l5] r (σ, sz, k, c) = zk_run E (zk_VT E) M_X8_reckonLoads (C_X8_reckonLoads E) P PX K n 41 [l0, l1, l2, l3, some (.int y4), l5] (.int y4 :: r) (σ, sz, k, c)) ∧
  (∀ (n : Nat) (l0 l1 l2 l3 l4 l5 : Option Value) (a : Nat) (i : Int32) (r : List Value) (σ : zk_S) (sz k c : Nat), zk_run E (zk_VT E) M_X8_reckonLoads (C_X8_reckonLoads E) P PX K (n + 1) 41 [l0, l1, l2, l3, l4, l5] (.int i :: .ref a :: r) (σ, sz, k, c) = zk_qld (zk_view E σ a) i [zk_ar E 3, zk_ar E 4, zk_ar E 5, zk_ar E 6, zk_ar E 7] (fun x => (x = none → zk_run E (zk_VT E) M_X8_reckonLoads (C_X8_reckonLoads E) P PX K n 42 [l0, l1, l2, l3, l4, l5] (.null :: r) (σ, sz, k, c)) ∧ ∀ b, x = some b → zk_run E (zk_VT E) M_X8_reckonLoads (C_X8_reckonLoads E) P PX K n 42 [l0, l1, l2, l3, l4, l5] (.ref b :: r) (σ, sz, k, c))) ∧
  (∀ (n : Nat) (l0 l1 l2 l3 l4 l5 : Option Value) (x : Value) (r : List Value) (σ : zk_S) (sz k c : Nat), zk_run E (zk_VT E) M_X8_reckonLoads (C_X8_reckonLoads E) P PX K (n + 1) 42 [l0, l1, l2, l3, l4, l5] (x :: r) (σ, sz, k, c) = (zk_isr x ∧ zk_run E (zk_VT E) M_X8_reckonLoads (C_X8_reckonLoads E) P PX K n 44 [l0, l1, l2, l3, zk_kl l4, some (x)] r (σ, sz, k, c))) ∧
  (∀ (n : Nat) (l0 l1 l2 l3 l4 : Option Value) (y5 : Value) (r : List Value) (σ : zk_S) (sz k c : Nat), zk_run E (zk_VT E) M_X8_reckonLoads (C_X8_reckonLoads E) P PX K (n + 1) 44 [l0, l1, l2, l3, l4, some y5] r (σ, sz, k, c) = (zk_isr y5 ∧ zk_run E (zk_VT E) M_X8_reckonLoads (C_X8_reckonLoads E) P PX K n 46 [l0, l1, l2, l3, l4, some y5] (y5 :: r) (σ, sz, k, c))) ∧
  (∀ (n : Nat) (l0 l1 l2 l3 l4 l5 : Option Value) (v : Value) (r : List Value) (σ : zk_S) (sz k c : Nat), zk_run E (zk_VT E) M_X8_reckonLoads (C_X8_reckonLoads E) P PX K (n + 1) 46 [l0, l1, l2, l3, l4, l5] (v :: r) (σ, sz, k, c) = (zk_isr v ∧ (v = .null → zk_run E (zk_VT E) M_X8_reckonLoads (C_X8_reckonLoads E) P PX K n 56 [l0, l1, l2, l3, l4, l5] r (σ, sz, k, c)) ∧ (¬ (v = .null) → zk_run E (zk_VT E) M_X8_reckonLoads (C_X8_reckonLoads E) P PX K n 49 [l0, l1, l2, l3, l4, l5] r (σ, sz, k, c)))) ∧
  (∀ (n : Nat) (l1 l2 l3 l4 l5 : Option Value) (y0 : Value) (r : List Value) (σ : zk_S) (sz k c : Nat), zk_run E (zk_VT E) M_X8_reckonLoads (C_X8_reckonLoads E) P PX K (n + 1) 49 [some y0, l1, l2, l3, l4, l5] r (σ, sz, k, c) = (zk_isr y0 ∧ zk_run E (zk_VT E) M_X8_reckonLoads (C_X8_reckonLoads E) P PX K n 50 [some y0, l1, l2, l3, l4, l5] (y0 :: r) (σ, sz, k, c))) ∧
  (∀ (n : Nat) (l0 l2 l3 l4 l5 : Option Value) (y1 : Value) (r : List Value) (σ : zk_S) (sz k c : Nat), zk_run E (zk_VT E) M_X8_reckonLoads (C_X8_reckonLoads E) P PX K (n + 1) 50 [l0, some y1, l2, l3, l4, l5] r (σ, sz, k, c) = (zk_isr y1 ∧ zk_run E (zk_VT E) M_X8_reckonLoads (C_X8_reckonLoads E) P PX K n 51 [l0, some y1, l2, l3, l4, l5] (y1 :: r) (σ, sz, k, c))) ∧
  (∀ (n : Nat) (l0 l1 l2 l3 l4 : Option Value) (y5 : Value) (r : List Value) (σ : zk_S) (sz k c : Nat), zk_run E (zk_VT E) M_X8_reckonLoads (C_X8_reckonLoads E) P PX K (n + 1) 51 [l0, l1, l2, l3, l4, some y5] r (σ, sz, k, c) = (zk_isr y5 ∧ zk_run E (zk_VT E) M_X8_reckonLoads (C_X8_reckonLoads E) P PX K n 53 [l0, l1, l2, l3, l4, some y5] (y5 :: r) (σ, sz, k, c))) ∧
  (∀ (n : Nat) (l0 l1 l2 l3 l4 l5 : Option Value) (v0 : Value) (v1 : Value) (v2 : Value)  (σ : zk_S) (sz k c : Nat), zk_run E (zk_VT E) M_X8_reckonLoads (C_X8_reckonLoads E) P PX K (n + 1) 53 [l0, l1, l2, l3, l4, l5] [v0, v1, v2] (σ, sz, k, c) = (k + 0 ≤ 0 ∧ c + 0 ≤ 0 ∧ (zk_rv (zk_VT E) (fun ci => Nat.beq ci 7) (sp_X8_addLoadOf E)) [v2, v1, v0] σ sz (fun v s2 z2 => zk_run E (zk_VT E) M_X8_reckonLoads (C_X8_reckonLoads E) P PX K n 56 [l0, l1, l2, l3, l4, l5] (zk_psh v []) (s2, z2, k + 0, c + 0)) (fun X s2 z2 => PX X s2 z2))) ∧
  (∀ (n : Nat) (l0 l1 l2 l3 l5 : Option Value) (y4 : Int32) (r : List Value) (σ : zk_S) (sz k c : Nat), zk_run E (zk_VT E) M_X8_reckonLoads (C_X8_reckonLoads E) P PX K (n + 1) 56 [l0, l1, l2, l3, some (.int y4), l5] r (σ, sz, k, c) = zk_run E (zk_VT E) M_X8_reckonLoads (C_X8_reckonLoads E) P PX K n 59 [l0, l1, l2, zk_kl l3, some (.int (y4 + 1)), l5] r (σ, sz, k, c)) ∧
  (∀ (n : Nat) (l0 l1 l2 l3 l4 l5 : Option Value)  (r : List Value) (σ : zk_S) (sz k c : Nat), zk_run E (zk_VT E) M_X8_reckonLoads (C_X8_reckonLoads E) P PX K (n + 1) 59 [l0, l1, l2, l3, l4, l5] r (σ, sz, k, c) = zk_run E (zk_VT E) M_X8_reckonLoads (C_X8_reckonLoads E) P PX K n 32 [l0, l1, l2, l3, l4, l5] r (σ, sz, k, c)) ∧
  (∀ (n : Nat) (l0 l1 l2 l3 l4 l5 : Option Value)   (σ : zk_S) (sz k c : Nat), zk_run E (zk_VT E) M_X8_reckonLoads (C_X8_reckonLoads E) P PX K (n + 1) 62 [l0, l1, l2, l3, l4, l5] [] (σ, sz, k, c) = (P none σ sz ∧ k ≤ 0 ∧ c ≤ 0)) ∧
  (∀ (n : Nat) (l0 l1 l2 l3 l4 l5 : Option Value) (r : List Value) (w : zk_W zk_S), zk_go E (zk_VT E) M_X8_reckonLoads (C_X8_reckonLoads E) P PX K n 0 [l0, l1, l2, l3, l4, l5] r w = zk_run E (zk_VT E) M_X8_reckonLoads (C_X8_reckonLoads E) P PX K (n + 1) 0 [l0, l1, l2, l3, l4, l5] r w) ∧
  (∀ (n : Nat) (l0 l1 l3 l4 l5 : Option Value) (y2 : Int32) (r : List Value) (σ : zk_S) (sz k c : Nat), zk_go E (zk_VT E) M_X8_reckonLoads (C_X8_reckonLoads E) P PX K n 2 [l0, l1, some (.int y2), l3, l4, l5] r (σ, sz, k, c) = zk_run E (zk_VT E) M_X8_reckonLoads (C_X8_reckonLoads E) P PX K n 3 [l0, l1, some (.int y2), l3, l4, l5] (.int y2 :: r) (σ, sz, k, c)) ∧
  (∀ (n : Nat) (l0 l1 l2 l3 l5 : Option Value) (y4 : Int32) (r : List Value) (σ : zk_S) (sz k c : Nat), zk_go E (zk_VT E) M_X8_reckonLoads (C_X8_reckonLoads E) P PX K n 32 [l0, l1, l2, l3, some (.int y4), l5] r (σ, sz, k, c) = zk_run E (zk_VT E) M_X8_reckonLoads (C_X8_reckonLoads E) P PX K n 34 [l0, l1, l2, l3, some (.int y4), l5] (.int y4 :: r) (σ, sz, k, c)) := ⟨by intros; rfl, by intros; rfl, by intros; rfl, by intros; rfl, by intros; rfl, by intros; rfl, by intros; rfl, by intros; rfl, by intros; rfl, by intros; rfl, by intros; rfl, by intros; rfl, by intros; rfl, by intros; rfl, by intros; rfl, by intros; rfl, by intros; rfl, by intros; rfl, by intros; rfl, by intros; rfl, by intros; rfl, by intros; rfl, by intros; rfl, by intros; rfl, by intros; rfl, by intros; rfl, by intros; rfl, by intros; rfl, by intros; rfl, by intros; rfl, by intros; rfl, by intros; rfl, by intros; rfl, by intros; rfl, by intros; rfl, by intros; rfl, by intros; rfl, by intros; rfl, by intros; rfl⟩
theorem vc_X8_reckonLoads (E : zk_E) : zk_VC E (zk_VT E) M_X8_reckonLoads (C_X8_reckonLoads E) 6 (sp_X8_reckonLoads E) := by
  intro av σ sz P PX h
  obtain ⟨J, N, Q, O, U⟩ := σ
  unfold sp_X8_reckonLoads at h
  split at h
  case h_2 => exact h.elim
  rename_i a0 p
  obtain ⟨rfl, h⟩ := h
  refine ⟨Nat.le_of_ble_eq_true rfl, fun G hG => ?_⟩
  change G 0 [some (.ref (zk_ad E 7)), some (.ref p), none, none, none, none] [] ((J, N, Q, O, U), sz, 0, 0)
  try dsimp only at h
  obtain ⟨rfl, J1, N1, fl, hmi, hxr, hwl, hwd, h⟩ := h
  have hr20 := hmi.1.1.2
  have hx : ∀ D, XR E sz (J, zk_un N 10 D, Q, O, U) J1 N1 fl := fun _ => hxr.cn rfl rfl
  have hw : ∀ D, WLv J1 N1 (zk_un N 10 D) := fun _ => hwl
  have hd : ∀ D, WDp J1 N1 (zk_un N 10 D) := fun _ => hwd
  have c20 : Int32.ofNat 20 = nI 20 := rfl
  have loop2 : ∀ m r L l5, r + m = 20 → (∀ i, i < 50 → L i = g_ld J1 N1 i (min r (m_nr J1))) → G 32 [some (.ref (zk_ad E 7)), some (.ref (zk_ad E 1)), some (.ref (zk_ad E 2)), some (.int (nI 20)), some (.int (nI r)), l5] [] ((J, zk_un N 10 L, Q, O, U), sz, 0, 0) := by
    intro m
    induction m with
    | zero =>
      intro r L l5 hr hL
      have c1 : nI 20 ≤ nI r := nI_le (by omega) (by omega)
      (refine hG 900 _ _ _ _ ?_; simp only [r_X8_reckonLoads, c1])
      exact h L (fun k hk => by rw [hL k hk, show min r (m_nr J1) = m_nr J1 by omega]; rfl)
    | succ m ih =>
      intro r L l5 hr hL
      have c1 : ¬ nI 20 ≤ nI r := nI_ge (by omega) (by omega)
      have hin : vp_in (nI r) 20 := n_in (by omega) (by decide)
      have hcl : (nI r).toNatClampNeg = r := n_cl (by omega)
      cases hb : Q 2 r with
      | none =>
        have nm : ¬ MR J1 N1 r := fun w => by
          obtain ⟨a, h1, -⟩ := hxr.2.1.room hmi w
          exact absurd (hb.symm.trans h1) (by simp)
        have ih2 := fun l5 => ih (r + 1) L l5 (by omega) (fun i hi => by
          rw [hL i hi]
          by_cases w : r < m_nr J1
          · rw [show min r (m_nr J1) = r by omega, show min (r + 1) (m_nr J1) = r + 1 by omega, g_ld, if_pos]
            exact Or.inl (Decidable.byContradiction fun z => nm ⟨w, z⟩)
          · rw [show min r (m_nr J1) = min (r + 1) (m_nr J1) by omega])
        (refine hG 900 _ _ _ _ ?_; simp only [r_X8_reckonLoads, c1, hin, hcl, hb, n_succ])
        exact ih2 _
      | some b =>
        obtain ⟨hj, -, -⟩ := hxr.2.1.back (by omega) hb
        have ih2 := fun l5 => ih (r + 1) (fun i => if g_deep J1 N1 r = -1 then L i else g_ldp J1 N1 i (N1 29 r) 21 (nI r) (L i)) l5 (by omega) (fun i hi => by
          have w := hj.1
          rw [hL i hi, show min r (m_nr J1) = r by omega, show min (r + 1) (m_nr J1) = r + 1 by omega, g_ld]
          by_cases z : g_deep J1 N1 r = -1
          · rw [if_pos z, if_pos (Or.inr z)]
          · rw [if_neg z, if_neg (fun y => y.elim hj.2 z)])
        (refine hG 900 _ _ _ _ ?_; simp only [r_X8_reckonLoads, c1, hin, hcl, hb, spe_X8_addLoadOf])
        refine ⟨J1, N1, fl, r, hmi, hx L, hw L, hd L, by omega, hb, ?_⟩
        simp only [r_X8_reckonLoads, zk_un_un, n_succ]
        exact ih2 _
  have loop1 : ∀ m i L, i + m = 50 → (∀ q, q < i → L q = 0) → G 2 [some (.ref (zk_ad E 7)), some (.ref (zk_ad E 1)), some (.int (nI i)), none, none, none] [] ((J, zk_un N 10 L, Q, O, U), sz, 0, 0) := by
    intro m
    induction m with
    | zero =>
      intro i L hi hL
      have c1 : (50 : Int32) ≤ nI i := (nI_le (a := 50) (by omega) (by omega) : nI 50 ≤ nI i)
      have l2 := loop2 20 0 L none (by omega) (fun i hi => by rw [hL i (by omega), Nat.zero_min]; rfl)
      rw [show nI 0 = 0 from rfl] at l2
      (refine hG 900 _ _ _ _ ?_; simp only [r_X8_reckonLoads, c1, c20])
      exact l2
    | succ m ih =>
      intro i L hi hL
      have c1 : ¬ (50 : Int32) ≤ nI i := (nI_ge (b := 50) (by omega) (by decide) : ¬ nI 50 ≤ nI i)
      have hin : vp_in (nI i) 50 := n_in (by omega) (by decide)
      have hcl : (nI i).toNatClampNeg = i := n_cl (by omega)
      have ih2 := ih (i + 1) (upd L i 0) (by omega) (fun q hq => by
        by_cases z : q = i
        · rw [z, upd_self]
        · rw [upd_ne _ _ z]; exact hL q (by omega))
      (refine hG 900 _ _ _ _ ?_; simp only [r_X8_reckonLoads, c1, hin, hcl, zk_un_un, n_succ])
      exact ih2
  have l0 := loop1 50 0 (N 10) (by omega) (fun q hq => absurd hq (Nat.not_lt_zero q))
  rw [zk_un_self N 10] at l0
  (refine hG 900 _ _ _ _ ?_; simp only [r_X8_reckonLoads])
  exact l0
theorem ct_X8_reckonLoads {l : Launch} (hl : l.stackTraces = false) (E : zk_E) : zk_C l E (zk_VT E) yX8_reckonLoads cX8_reckonLoads 6 (none) rm_X8_reckonLoads (sp_X8_reckonLoads E) := by
  refine zk_meth (M := M_X8_reckonLoads) (C := C_X8_reckonLoads E) hl (by decide +kernel) rfl (fun _ _ => rfl) (zk_VT_ok E) MO_X8_reckonLoads TO_X8_reckonLoads THo_X8_reckonLoads ?_ (vc_X8_reckonLoads E)
  exact fun p e s m args below meth c X pc n mc ms sp2 h => by
    have h2 := zk_lka_mem h
    simp only [List.mem_cons, List.not_mem_nil, or_false, Prod.mk.injEq] at h2
    rcases h2 with ⟨rfl, rfl, rfl, rfl, rfl⟩
    exact zk_coV (idx := 124) X (ct_X8_addLoadOf hl E) (List.forall_mem_cons.mpr ⟨zk_wi 179 (by decide +kernel) rfl, List.forall_mem_cons.mpr ⟨zk_wi 180 (by decide +kernel) rfl, List.forall_mem_cons.mpr ⟨zk_wi 181 (by decide +kernel) rfl, List.forall_mem_cons.mpr ⟨zk_wi 4 (by decide +kernel) rfl, List.forall_mem_cons.mpr ⟨zk_wi 182 (by decide +kernel) rfl, fun _ h => absurd h List.not_mem_nil⟩⟩⟩⟩⟩) (fun ci h => by
      have h := Nat.eq_of_beq_eq_true h
      subst h
      exact ⟨_, _, rfl⟩) (by decide +kernel) ⟨by decide, by decide, by decide +kernel⟩ ⟨by decide, by decide⟩
def sp_X8_countStuck (E : zk_E) : zk_Sp zk_S := fun av σ sz P PX => match av with
  | [.ref a, .ref p] => a = zk_ad E 7 ∧ p = zk_ad E 1 ∧ ∃ J N fl, MI J N ∧ XR E sz σ J N fl ∧ WDp J N σ.2.1 ∧ P (some (.int (a_stuck J N))) σ sz
  | _ => False
theorem spe_X8_countStuck (E : zk_E) (a : Nat) (p : Nat) (σ : zk_S) (sz : Nat) (P : zk_P zk_S) (PX : zk_X zk_S) : sp_X8_countStuck E [.ref a, .ref p] σ sz P PX = (a = zk_ad E 7 ∧ p = zk_ad E 1 ∧ ∃ J N fl, MI J N ∧ XR E sz σ J N fl ∧ WDp J N σ.2.1 ∧ P (some (.int (a_stuck J N))) σ sz) := propext Iff.rfl
def C_X8_countStuck (E : zk_E) : zk_Cl zk_S := zk_lka []
theorem r_X8_countStuck (E : zk_E) (P : zk_P zk_S) (PX : zk_X zk_S) (K : Nat → zk_L → List Value → zk_W zk_S → Prop) : (∀ (n : Nat) (l0 l1 l2 l3 l4 l5 l6 : Option Value)  (r : List Value) (σ : zk_S) (sz k c : Nat), zk_run E (zk_VT E) M_X8_countStuck (C_X8_countStuck E) P PX K (n + 1) 0 [l0, l1, l2, l3, l4, l5, l6] r (σ, sz, k, c) = zk_run E (zk_VT E) M_X8_countStuck (C_X8_countStuck E) P PX K n 1 [l0, l1, l2, l3, l4, l5, l6] (.int (0) :: r) (σ, sz, k, c)) ∧
  (∀ (n : Nat) (l0 l1 l2 l3 l4 l5 l6 : Option Value) (x : Int32) (r : List Value) (σ : zk_S) (sz k c : Nat), zk_run E (zk_VT E) M_X8_countStuck (C_X8_countStuck E) P PX K (n + 1) 1 [l0, l1, l2, l3, l4, l5, l6] (.int x :: r) (σ, sz, k, c) = zk_run E (zk_VT E) M_X8_countStuck (C_X8_countStuck E) P PX K n 2 [l0, zk_kl l1, some (.int x), l3, l4, l5, l6] r (σ, sz, k, c)) ∧
  (∀ (n : Nat) (l0 l2 l3 l4 l5 l6 : Option Value) (y1 : Value) (r : List Value) (σ : zk_S) (sz k c : Nat), zk_run E (zk_VT E) M_X8_countStuck (C_X8_countStuck E) P PX K (n + 1) 2 [l0, some y1, l2, l3, l4, l5, l6] r (σ, sz, k, c) = (zk_isr y1 ∧ zk_run E (zk_VT E) M_X8_countStuck (C_X8_countStuck E) P PX K n 3 [l0, some y1, l2, l3, l4, l5, l6] (y1 :: r) (σ, sz, k, c))) ∧
  (∀ (n : Nat) (l0 l1 l2 l3 l4 l5 l6 : Option Value) (a : Nat) (r : List Value) (σ : zk_S) (sz k c : Nat), zk_run E (zk_VT E) M_X8_countStuck (C_X8_countStuck E) P PX K (n + 1) 3 [l0, l1, l2, l3, l4, l5, l6] (.ref a :: r) (σ, sz, k, c) = zk_fld (zk_view E σ a) [4] 0 (fun v => zk_run E (zk_VT E) M_X8_countStuck (C_X8_countStuck E) P PX K n 6 [l0, l1, l2, l3, l4, l5, l6] (v :: r) (σ, sz, k, c))) ∧
  (∀ (n : Nat) (l0 l1 l2 l3 l4 l5 l6 : Option Value) (x : Value) (r : List Value) (σ : zk_S) (sz k c : Nat), zk_run E (zk_VT E) M_X8_countStuck (C_X8_countStuck E) P PX K (n + 1) 6 [l0, l1, l2, l3, l4, l5, l6] (x :: r) (σ, sz, k, c) = (zk_isr x ∧ zk_run E (zk_VT E) M_X8_countStuck (C_X8_countStuck E) P PX K n 7 [l0, l1, zk_kl l2, some (x), l4, l5, l6] r (σ, sz, k, c))) ∧
  (∀ (n : Nat) (l0 l1 l2 l4 l5 l6 : Option Value) (y3 : Value) (r : List Value) (σ : zk_S) (sz k c : Nat), zk_run E (zk_VT E) M_X8_countStuck (C_X8_countStuck E) P PX K (n + 1) 7 [l0, l1, l2, some y3, l4, l5, l6] r (σ, sz, k, c) = (zk_isr y3 ∧ zk_run E (zk_VT E) M_X8_countStuck (C_X8_countStuck E) P PX K n 8 [l0, l1, l2, some y3, l4, l5, l6] (y3 :: r) (σ, sz, k, c))) ∧
  (∀ (n : Nat) (l0 l1 l2 l3 l4 l5 l6 : Option Value) (a : Nat) (r : List Value) (σ : zk_S) (sz k c : Nat), zk_run E (zk_VT E) M_X8_countStuck (C_X8_countStuck E) P PX K (n + 1) 8 [l0, l1, l2, l3, l4, l5, l6] (.ref a :: r) (σ, sz, k, c) = zk_lenq E (zk_view E σ a) (fun x => zk_run E (zk_VT E) M_X8_countStuck (C_X8_countStuck E) P PX K n 9 [l0, l1, l2, l3, l4, l5, l6] (.int x :: r) (σ, sz, k, c))) ∧
  (∀ (n : Nat) (l0 l1 l2 l3 l4 l5 l6 : Option Value) (x : Int32) (r : List Value) (σ : zk_S) (sz k c : Nat), zk_run E (zk_VT E) M_X8_countStuck (C_X8_countStuck E) P PX K (n + 1) 9 [l0, l1, l2, l3, l4, l5, l6] (.int x :: r) (σ, sz, k, c) = zk_run E (zk_VT E) M_X8_countStuck (C_X8_countStuck E) P PX K n 11 [l0, l1, l2, zk_kl l3, some (.int x), l5, l6] r (σ, sz, k, c)) ∧
  (∀ (n : Nat) (l0 l1 l2 l3 l4 l5 l6 : Option Value)  (r : List Value) (σ : zk_S) (sz k c : Nat), zk_run E (zk_VT E) M_X8_countStuck (C_X8_countStuck E) P PX K (n + 1) 11 [l0, l1, l2, l3, l4, l5, l6] r (σ, sz, k, c) = zk_run E (zk_VT E) M_X8_countStuck (C_X8_countStuck E) P PX K n 12 [l0, l1, l2, l3, l4, l5, l6] (.int (0) :: r) (σ, sz, k, c)) ∧
  (∀ (n : Nat) (l0 l1 l2 l3 l4 l5 l6 : Option Value) (x : Int32) (r : List Value) (σ : zk_S) (sz k c : Nat), zk_run E (zk_VT E) M_X8_countStuck (C_X8_countStuck E) P PX K (n + 1) 12 [l0, l1, l2, l3, l4, l5, l6] (.int x :: r) (σ, sz, k, c) = zk_run E (zk_VT E) M_X8_countStuck (C_X8_countStuck E) P PX K n 14 [l0, l1, l2, l3, zk_kl l4, some (.int x), l6] r (σ, sz, k, c)) ∧
  (∀ (n : Nat) (l0 l1 l2 l3 l4 l5 l6 : Option Value)  (r : List Value) (σ : zk_S) (sz k c : Nat), zk_run E (zk_VT E) M_X8_countStuck (C_X8_countStuck E) P PX K (n + 1) 14 [l0, l1, l2, l3, l4, l5, l6] r (σ, sz, k, c) = K 14 [l0, l1, l2, l3, l4, l5, l6] r (σ, sz, k, c)) ∧
  (∀ (n : Nat) (l0 l1 l2 l3 l5 l6 : Option Value) (y4 : Int32) (r : List Value) (σ : zk_S) (sz k c : Nat), zk_run E (zk_VT E) M_X8_countStuck (C_X8_countStuck E) P PX K (n + 1) 16 [l0, l1, l2, l3, some (.int y4), l5, l6] r (σ, sz, k, c) = zk_run E (zk_VT E) M_X8_countStuck (C_X8_countStuck E) P PX K n 18 [l0, l1, l2, l3, some (.int y4), l5, l6] (.int y4 :: r) (σ, sz, k, c)) ∧
  (∀ (n : Nat) (l0 l1 l2 l3 l4 l5 l6 : Option Value) (x y : Int32) (r : List Value) (σ : zk_S) (sz k c : Nat), zk_run E (zk_VT E) M_X8_countStuck (C_X8_countStuck E) P PX K (n + 1) 18 [l0, l1, l2, l3, l4, l5, l6] (.int y :: .int x :: r) (σ, sz, k, c) = ((y ≤ x → zk_run E (zk_VT E) M_X8_countStuck (C_X8_countStuck E) P PX K n 60 [l0, l1, l2, l3, l4, l5, l6] r (σ, sz, k, c)) ∧ (¬ (y ≤ x) → zk_run E (zk_VT E) M_X8_countStuck (C_X8_countStuck E) P PX K n 21 [l0, l1, l2, l3, l4, l5, l6] r (σ, sz, k, c)))) ∧
  (∀ (n : Nat) (l0 l1 l2 l4 l5 l6 : Option Value) (y3 : Value) (r : List Value) (σ : zk_S) (sz k c : Nat), zk_run E (zk_VT E) M_X8_countStuck (C_X8_countStuck E) P PX K (n + 1) 21 [l0, l1, l2, some y3, l4, l5, l6] r (σ, sz, k, c) = (zk_isr y3 ∧ zk_run E (zk_VT E) M_X8_countStuck (C_X8_countStuck E) P PX K n 22 [l0, l1, l2, some y3, l4, l5, l6] (y3 :: r) (σ, sz, k, c))) ∧
  (∀ (n : Nat) (l0 l1 l2 l3 l4 l6 : Option Value) (y5 : Int32) (r : List Value) (σ : zk_S) (sz k c : Nat), zk_run E (zk_VT E) M_X8_countStuck (C_X8_countStuck E) P PX K (n + 1) 22 [l0, l1, l2, l3, l4, some (.int y5), l6] r (σ, sz, k, c) = zk_run E (zk_VT E) M_X8_countStuck (C_X8_countStuck E) P PX K n 24 [l0, l1, l2, l3, l4, some (.int y5), l6] (.int y5 :: r) (σ, sz, k, c)) ∧
  (∀ (n : Nat) (l0 l1 l2 l3 l4 l5 l6 : Option Value) (a : Nat) (i : Int32) (r : List Value) (σ : zk_S) (sz k c : Nat), zk_run E (zk_VT E) M_X8_countStuck (C_X8_countStuck E) P PX K (n + 1) 24 [l0, l1, l2, l3, l4, l5, l6] (.int i :: .ref a :: r) (σ, sz, k, c) = zk_qld (zk_view E σ a) i [zk_ar E 3, zk_ar E 4, zk_ar E 5, zk_ar E 6, zk_ar E 7] (fun x => (x = none → zk_run E (zk_VT E) M_X8_countStuck (C_X8_countStuck E) P PX K n 25 [l0, l1, l2, l3, l4, l5, l6] (.null :: r) (σ, sz, k, c)) ∧ ∀ b, x = some b → zk_run E (zk_VT E) M_X8_countStuck (C_X8_countStuck E) P PX K n 25 [l0, l1, l2, l3, l4, l5, l6] (.ref b :: r) (σ, sz, k, c))) ∧
  (∀ (n : Nat) (l0 l1 l2 l3 l4 l5 l6 : Option Value) (x : Value) (r : List Value) (σ : zk_S) (sz k c : Nat), zk_run E (zk_VT E) M_X8_countStuck (C_X8_countStuck E) P PX K (n + 1) 25 [l0, l1, l2, l3, l4, l5, l6] (x :: r) (σ, sz, k, c) = (zk_isr x ∧ zk_run E (zk_VT E) M_X8_countStuck (C_X8_countStuck E) P PX K n 27 [l0, l1, l2, l3, l4, zk_kl l5, some (x)] r (σ, sz, k, c))) ∧
  (∀ (n : Nat) (l0 l1 l2 l3 l4 l5 : Option Value) (y6 : Value) (r : List Value) (σ : zk_S) (sz k c : Nat), zk_run E (zk_VT E) M_X8_countStuck (C_X8_countStuck E) P PX K (n + 1) 27 [l0, l1, l2, l3, l4, l5, some y6] r (σ, sz, k, c) = (zk_isr y6 ∧ zk_run E (zk_VT E) M_X8_countStuck (C_X8_countStuck E) P PX K n 29 [l0, l1, l2, l3, l4, l5, some y6] (y6 :: r) (σ, sz, k, c))) ∧
  (∀ (n : Nat) (l0 l1 l2 l3 l4 l5 l6 : Option Value) (v : Value) (r : List Value) (σ : zk_S) (sz k c : Nat), zk_run E (zk_VT E) M_X8_countStuck (C_X8_countStuck E) P PX K (n + 1) 29 [l0, l1, l2, l3, l4, l5, l6] (v :: r) (σ, sz, k, c) = (zk_isr v ∧ (v = .null → zk_run E (zk_VT E) M_X8_countStuck (C_X8_countStuck E) P PX K n 54 [l0, l1, l2, l3, l4, l5, l6] r (σ, sz, k, c)) ∧ (¬ (v = .null) → zk_run E (zk_VT E) M_X8_countStuck (C_X8_countStuck E) P PX K n 32 [l0, l1, l2, l3, l4, l5, l6] r (σ, sz, k, c)))) ∧
  (∀ (n : Nat) (l1 l2 l3 l4 l5 l6 : Option Value) (y0 : Value) (r : List Value) (σ : zk_S) (sz k c : Nat), zk_run E (zk_VT E) M_X8_countStuck (C_X8_countStuck E) P PX K (n + 1) 32 [some y0, l1, l2, l3, l4, l5, l6] r (σ, sz, k, c) = (zk_isr y0 ∧ zk_run E (zk_VT E) M_X8_countStuck (C_X8_countStuck E) P PX K n 33 [some y0, l1, l2, l3, l4, l5, l6] (y0 :: r) (σ, sz, k, c))) ∧
  (∀ (n : Nat) (l0 l1 l2 l3 l4 l5 l6 : Option Value) (a : Nat) (r : List Value) (σ : zk_S) (sz k c : Nat), zk_run E (zk_VT E) M_X8_countStuck (C_X8_countStuck E) P PX K (n + 1) 33 [l0, l1, l2, l3, l4, l5, l6] (.ref a :: r) (σ, sz, k, c) = zk_fld (zk_view E σ a) [7] 6 (fun v => zk_run E (zk_VT E) M_X8_countStuck (C_X8_countStuck E) P PX K n 36 [l0, l1, l2, l3, l4, l5, l6] (v :: r) (σ, sz, k, c))) ∧
  (∀ (n : Nat) (l0 l1 l2 l3 l4 l5 : Option Value) (y6 : Value) (r : List Value) (σ : zk_S) (sz k c : Nat), zk_run E (zk_VT E) M_X8_countStuck (C_X8_countStuck E) P PX K (n + 1) 36 [l0, l1, l2, l3, l4, l5, some y6] r (σ, sz, k, c) = (zk_isr y6 ∧ zk_run E (zk_VT E) M_X8_countStuck (C_X8_countStuck E) P PX K n 38 [l0, l1, l2, l3, l4, l5, some y6] (y6 :: r) (σ, sz, k, c))) ∧
  (∀ (n : Nat) (l0 l1 l2 l3 l4 l5 l6 : Option Value) (a : Nat) (r : List Value) (σ : zk_S) (sz k c : Nat), zk_run E (zk_VT E) M_X8_countStuck (C_X8_countStuck E) P PX K (n + 1) 38 [l0, l1, l2, l3, l4, l5, l6] (.ref a :: r) (σ, sz, k, c) = zk_fld (zk_view E σ a) [5] 0 (fun v => zk_run E (zk_VT E) M_X8_countStuck (C_X8_countStuck E) P PX K n 41 [l0, l1, l2, l3, l4, l5, l6] (v :: r) (σ, sz, k, c))) ∧
  (∀ (n : Nat) (l0 l1 l2 l3 l4 l5 l6 : Option Value) (a : Nat) (i : Int32) (r : List Value) (σ : zk_S) (sz k c : Nat), zk_run E (zk_VT E) M_X8_countStuck (C_X8_countStuck E) P PX K (n + 1) 41 [l0, l1, l2, l3, l4, l5, l6] (.int i :: .ref a :: r) (σ, sz, k, c) = zk_ild (zk_view E σ a) (zk_ar E 0) i (fun x => zk_run E (zk_VT E) M_X8_countStuck (C_X8_countStuck E) P PX K n 42 [l0, l1, l2, l3, l4, l5, l6] (.int x :: r) (σ, sz, k, c))) ∧
  (∀ (n : Nat) (l0 l1 l2 l3 l4 l5 l6 : Option Value)  (r : List Value) (σ : zk_S) (sz k c : Nat), zk_run E (zk_VT E) M_X8_countStuck (C_X8_countStuck E) P PX K (n + 1) 42 [l0, l1, l2, l3, l4, l5, l6] r (σ, sz, k, c) = zk_run E (zk_VT E) M_X8_countStuck (C_X8_countStuck E) P PX K n 43 [l0, l1, l2, l3, l4, l5, l6] (.int ((-1)) :: r) (σ, sz, k, c)) ∧
  (∀ (n : Nat) (l0 l1 l2 l3 l4 l5 l6 : Option Value) (x y : Int32) (r : List Value) (σ : zk_S) (sz k c : Nat), zk_run E (zk_VT E) M_X8_countStuck (C_X8_countStuck E) P PX K (n + 1) 43 [l0, l1, l2, l3, l4, l5, l6] (.int y :: .int x :: r) (σ, sz, k, c) = ((¬ x = y → zk_run E (zk_VT E) M_X8_countStuck (C_X8_countStuck E) P PX K n 54 [l0, l1, l2, l3, l4, l5, l6] r (σ, sz, k, c)) ∧ (¬ (¬ x = y) → zk_run E (zk_VT E) M_X8_countStuck (C_X8_countStuck E) P PX K n 46 [l0, l1, l2, l3, l4, l5, l6] r (σ, sz, k, c)))) ∧
  (∀ (n : Nat) (l0 l1 l3 l4 l5 l6 : Option Value) (y2 : Int32) (r : List Value) (σ : zk_S) (sz k c : Nat), zk_run E (zk_VT E) M_X8_countStuck (C_X8_countStuck E) P PX K (n + 1) 46 [l0, l1, some (.int y2), l3, l4, l5, l6] r (σ, sz, k, c) = zk_run E (zk_VT E) M_X8_countStuck (C_X8_countStuck E) P PX K n 47 [l0, l1, some (.int y2), l3, l4, l5, l6] (.int y2 :: r) (σ, sz, k, c)) ∧
  (∀ (n : Nat) (l0 l1 l2 l3 l4 l5 : Option Value) (y6 : Value) (r : List Value) (σ : zk_S) (sz k c : Nat), zk_run E (zk_VT E) M_X8_countStuck (C_X8_countStuck E) P PX K (n + 1) 47 [l0, l1, l2, l3, l4, l5, some y6] r (σ, sz, k, c) = (zk_isr y6 ∧ zk_run E (zk_VT E) M_X8_countStuck (C_X8_countStuck E) P PX K n 49 [l0, l1, l2, l3, l4, l5, some y6] (y6 :: r) (σ, sz, k, c))) ∧
  (∀ (n : Nat) (l0 l1 l2 l3 l4 l5 l6 : Option Value) (a : Nat) (r : List Value) (σ : zk_S) (sz k c : Nat), zk_run E (zk_VT E) M_X8_countStuck (C_X8_countStuck E) P PX K (n + 1) 49 [l0, l1, l2, l3, l4, l5, l6] (.ref a :: r) (σ, sz, k, c) = zk_fld (zk_view E σ a) [5] 7 (fun v => zk_run E (zk_VT E) M_X8_countStuck (C_X8_countStuck E) P PX K n 52 [l0, l1, l2, l3, l4, l5, l6] (v :: r) (σ, sz, k, c))) ∧
  (∀ (n : Nat) (l0 l1 l2 l3 l4 l5 l6 : Option Value) (x y : Int32) (r : List Value) (σ : zk_S) (sz k c : Nat), zk_run E (zk_VT E) M_X8_countStuck (C_X8_countStuck E) P PX K (n + 1) 52 [l0, l1, l2, l3, l4, l5, l6] (.int y :: .int x :: r) (σ, sz, k, c) = zk_run E (zk_VT E) M_X8_countStuck (C_X8_countStuck E) P PX K n 53 [l0, l1, l2, l3, l4, l5, l6] (.int (x + y) :: r) (σ, sz, k, c)) ∧
  (∀ (n : Nat) (l0 l1 l2 l3 l4 l5 l6 : Option Value) (x : Int32) (r : List Value) (σ : zk_S) (sz k c : Nat), zk_run E (zk_VT E) M_X8_countStuck (C_X8_countStuck E) P PX K (n + 1) 53 [l0, l1, l2, l3, l4, l5, l6] (.int x :: r) (σ, sz, k, c) = zk_run E (zk_VT E) M_X8_countStuck (C_X8_countStuck E) P PX K n 54 [l0, zk_kl l1, some (.int x), l3, l4, l5, l6] r (σ, sz, k, c)) ∧
  (∀ (n : Nat) (l0 l1 l2 l3 l4 l6 : Option Value) (y5 : Int32) (r : List Value) (σ : zk_S) (sz k c : Nat), zk_run E (zk_VT E) M_X8_countStuck (C_X8_countStuck E) P PX K (n + 1) 54 [l0, l1, l2, l3, l4, some (.int y5), l6] r (σ, sz, k, c) = zk_run E (zk_VT E) M_X8_countStuck (C_X8_countStuck E) P PX K n 57 [l0, l1, l2, l3, zk_kl l4, some (.int (y5 + 1)), l6] r (σ, sz, k, c)) ∧
  (∀ (n : Nat) (l0 l1 l2 l3 l4 l5 l6 : Option Value)  (r : List Value) (σ : zk_S) (sz k c : Nat), zk_run E (zk_VT E) M_X8_countStuck (C_X8_countStuck E) P PX K (n + 1) 57 [l0, l1, l2, l3, l4, l5, l6] r (σ, sz, k, c) = zk_run E (zk_VT E) M_X8_countStuck (C_X8_countStuck E) P PX K n 14 [l0, l1, l2, l3, l4, l5, l6] r (σ, sz, k, c)) ∧
  (∀ (n : Nat) (l0 l1 l3 l4 l5 l6 : Option Value) (y2 : Int32) (r : List Value) (σ : zk_S) (sz k c : Nat), zk_run E (zk_VT E) M_X8_countStuck (C_X8_countStuck E) P PX K (n + 1) 60 [l0, l1, some (.int y2), l3, l4, l5, l6] r (σ, sz, k, c) = zk_run E (zk_VT E) M_X8_countStuck (C_X8_countStuck E) P PX K n 61 [l0, l1, some (.int y2), l3, l4, l5, l6] (.int y2 :: r) (σ, sz, k, c)) ∧
  (∀ (n : Nat) (l0 l1 l2 l3 l4 l5 l6 : Option Value) (x : Int32)  (σ : zk_S) (sz k c : Nat), zk_run E (zk_VT E) M_X8_countStuck (C_X8_countStuck E) P PX K (n + 1) 61 [l0, l1, l2, l3, l4, l5, l6] [.int x] (σ, sz, k, c) = (zk_nok (some (.int)) x ∧ P (some (.int x)) σ sz ∧ k ≤ 0 ∧ c ≤ 0)) ∧
  (∀ (n : Nat) (l0 l1 l2 l3 l4 l5 l6 : Option Value) (r : List Value) (w : zk_W zk_S), zk_go E (zk_VT E) M_X8_countStuck (C_X8_countStuck E) P PX K n 0 [l0, l1, l2, l3, l4, l5, l6] r w = zk_run E (zk_VT E) M_X8_countStuck (C_X8_countStuck E) P PX K (n + 1) 0 [l0, l1, l2, l3, l4, l5, l6] r w) ∧
  (∀ (n : Nat) (l0 l1 l2 l3 l4 l6 : Option Value) (y5 : Int32) (r : List Value) (σ : zk_S) (sz k c : Nat), zk_go E (zk_VT E) M_X8_countStuck (C_X8_countStuck E) P PX K n 14 [l0, l1, l2, l3, l4, some (.int y5), l6] r (σ, sz, k, c) = zk_run E (zk_VT E) M_X8_countStuck (C_X8_countStuck E) P PX K n 16 [l0, l1, l2, l3, l4, some (.int y5), l6] (.int y5 :: r) (σ, sz, k, c)) := ⟨by intros; rfl, by intros; rfl, by intros; rfl, by intros; rfl, by intros; rfl, by intros; rfl, by intros; rfl, by intros; rfl, by intros; rfl, by intros; rfl, by intros; rfl, by intros; rfl, by intros; rfl, by intros; rfl, by intros; rfl, by intros; rfl, by intros; rfl, by intros; rfl, by intros; rfl, by intros; rfl, by intros; rfl, by intros; rfl, by intros; rfl, by intros; rfl, by intros; rfl, by intros; rfl, by intros; rfl, by intros; rfl, by intros; rfl, by intros; rfl, by intros; rfl, by intros; rfl, by intros; rfl, by intros; rfl, by intros; rfl, by intros; rfl, by intros; rfl⟩
theorem vc_X8_countStuck (E : zk_E) : zk_VC E (zk_VT E) M_X8_countStuck (C_X8_countStuck E) 7 (sp_X8_countStuck E) := by
  intro av σ sz P PX h
  obtain ⟨J, N, Q, O, U⟩ := σ
  unfold sp_X8_countStuck at h
  split at h
  case h_2 => exact h.elim
  rename_i a0 p
  obtain ⟨rfl, h⟩ := h
  refine ⟨Nat.le_of_ble_eq_true rfl, fun G hG => ?_⟩
  change G 0 [some (.ref (zk_ad E 7)), some (.ref p), none, none, none, none, none] [] ((J, N, Q, O, U), sz, 0, 0)
  try dsimp only at h
  obtain ⟨rfl, J1, N1, fl, hmi, hxr, hwd, h⟩ := h
  have hr20 := hmi.1.1.2
  have c20 : Int32.ofNat 20 = nI 20 := rfl
  unfold a_stuck at h
  have loop2 : ∀ m r l5, r + m = 20 → G 14 [some (.ref (zk_ad E 7)), some (.ref (zk_ad E 1)), some (.int (m_sum (g_st J1 N1) (min r (m_nr J1)))), some (.ref (zk_ad E 2)), some (.int (nI 20)), some (.int (nI r)), l5] [] ((J, N, Q, O, U), sz, 0, 0) := by
    intro m
    induction m with
    | zero =>
      intro r l5 hr
      have c1 : nI 20 ≤ nI r := nI_le (by omega) (by omega)
      rw [show min r (m_nr J1) = m_nr J1 by omega]
      (refine hG 900 _ _ _ _ ?_; simp only [r_X8_countStuck, c1])
      exact h
    | succ m ih =>
      intro r l5 hr
      have c1 : ¬ nI 20 ≤ nI r := nI_ge (by omega) (by omega)
      have hin : vp_in (nI r) 20 := n_in (by omega) (by decide)
      have hcl : (nI r).toNatClampNeg = r := n_cl (by omega)
      have ih2 := fun l5 => ih (r + 1) l5 (by omega)
      rcases hxr.2.1 r (by omega) with ⟨b, hj, hb, hbo, hOb⟩ | ⟨nm, hb⟩
      · have hb : Q 2 r = some b := hb
        have hOb : O b = some (xrm N1 r) := hOb
        have w := hj.1
        have hb1 := hbo.1
        have b0 : ∀ F : Value → Prop, zk_fld (O b) [5] 0 F = F (.int (nI r)) := fun F => by rw [hOb]; simp [zk_fld_o, xrm, cR, zk_nth]
        have b7 : ∀ F : Value → Prop, zk_fld (O b) [5] 7 F = F (.int (N1 29 r)) := fun F => by rw [hOb]; simp [zk_fld_o, xrm, cR, zk_nth]
        have h14 : N 14 r = g_deep J1 N1 r := hwd r (by omega)
        rw [show min (r + 1) (m_nr J1) = r + 1 by omega, m_sum, g_st] at ih2
        rw [show min r (m_nr J1) = r by omega]
        by_cases z : g_deep J1 N1 r = -1
        · rw [if_pos ⟨hj.2, z⟩] at ih2
          (refine hG 900 _ _ _ _ ?_; simp only [r_X8_countStuck, c1, hin, hcl, hb, zk_vd hb1, b0, b7, h14, z, n_succ])
          exact ih2 _
        · rw [if_neg (fun y => z y.2), Int32.add_zero] at ih2
          (refine hG 900 _ _ _ _ ?_; simp only [r_X8_countStuck, c1, hin, hcl, hb, zk_vd hb1, b0, b7, h14, z, n_succ])
          exact ih2 _
      · have hb : Q 2 r = none := hb
        have e0 : m_sum (g_st J1 N1) (min (r + 1) (m_nr J1)) = m_sum (g_st J1 N1) (min r (m_nr J1)) := by
          by_cases w : r < m_nr J1
          · rw [show min r (m_nr J1) = r by omega, show min (r + 1) (m_nr J1) = r + 1 by omega, m_sum, g_st, if_neg (fun y => nm ⟨w, y.1⟩), Int32.add_zero]
          · rw [show min r (m_nr J1) = min (r + 1) (m_nr J1) by omega]
        rw [e0] at ih2
        (refine hG 900 _ _ _ _ ?_; simp only [r_X8_countStuck, c1, hin, hcl, hb, n_succ])
        exact ih2 _
  have l0 := loop2 20 0 none (by omega)
  rw [Nat.zero_min] at l0
  (refine hG 900 _ _ _ _ ?_; simp only [r_X8_countStuck, c20])
  exact l0
theorem ct_X8_countStuck {l : Launch} (hl : l.stackTraces = false) (E : zk_E) : zk_C l E (zk_VT E) yX8_countStuck cX8_countStuck 7 (some (.int)) rm_X8_countStuck (sp_X8_countStuck E) := by
  refine zk_meth (M := M_X8_countStuck) (C := C_X8_countStuck E) hl (by decide +kernel) rfl (fun _ _ => rfl) (zk_VT_ok E) MO_X8_countStuck TO_X8_countStuck THo_X8_countStuck ?_ (vc_X8_countStuck E)
  exact fun p e s m args below meth c X pc n mc ms sp2 h => absurd (zk_lka_mem h) List.not_mem_nil


