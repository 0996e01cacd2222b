/-! the class: bestExit, reckonRoom -/
def bex (e : Nat) : Int32 := if e = 100 then -1 else nI (e / 2)
def sp_X8_bestExit (E : zk_E) : zk_Sp zk_S := fun av σ sz P PX => match av with
  | [.ref a, .ref p, .ref b, .int px, .int py] => a = zk_ad E 7 ∧ p = zk_ad E 1 ∧ ∃ J N fl j x y, MI J N ∧ XR E sz σ J N fl ∧ WA J N σ.2.1 ∧ MR J N j ∧ σ.2.2.1 2 j = some b ∧ x ≤ 400 ∧ y ≤ 400 ∧ px = nI x ∧ py = nI y ∧ P (some (.int (bex (g_best J N (LL J N) (nI j) x y).2))) σ sz
  | _ => False
theorem spe_X8_bestExit (E : zk_E) (a : Nat) (p : Nat) (b : Nat) (px : Int32) (py : Int32) (σ : zk_S) (sz : Nat) (P : zk_P zk_S) (PX : zk_X zk_S) : sp_X8_bestExit E [.ref a, .ref p, .ref b, .int px, .int py] σ sz P PX = (a = zk_ad E 7 ∧ p = zk_ad E 1 ∧ ∃ J N fl j x y, MI J N ∧ XR E sz σ J N fl ∧ WA J N σ.2.1 ∧ MR J N j ∧ σ.2.2.1 2 j = some b ∧ x ≤ 400 ∧ y ≤ 400 ∧ px = nI x ∧ py = nI y ∧ P (some (.int (bex (g_best J N (LL J N) (nI j) x y).2))) σ sz) := propext Iff.rfl
def C_X8_bestExit (E : zk_E) : zk_Cl zk_S := zk_lka [(24, 6, 0, 0, zk_rv (zk_VT E) (fun ci => Nat.beq ci 7) (sp_X8_wayBy E)), (33, 2, 0, 0, sp_X8_isLess E)]
theorem r_X8_bestExit (E : zk_E) (P : zk_P zk_S) (PX : zk_X zk_S) (K : Nat → zk_L → List Value → zk_W zk_S → Prop) : (∀ (n : Nat) (l0 l1 l2 l3 l4 l5 l6 l7 l8 : Option Value)  (r : List Value) (σ : zk_S) (sz k c : Nat), zk_run E (zk_VT E) M_X8_bestExit (C_X8_bestExit E) P PX K (n + 1) 0 [l0, l1, l2, l3, l4, l5, l6, l7, l8] r (σ, sz, k, c) = zk_run E (zk_VT E) M_X8_bestExit (C_X8_bestExit E) P PX K n 1 [l0, l1, l2, l3, l4, l5, l6, l7, l8] (.int ((-1)) :: r) (σ, sz, k, c)) ∧
  (∀ (n : Nat) (l0 l1 l2 l3 l4 l5 l6 l7 l8 : Option Value) (x : Int32) (r : List Value) (σ : zk_S) (sz k c : Nat), zk_run E (zk_VT E) M_X8_bestExit (C_X8_bestExit E) P PX K (n + 1) 1 [l0, l1, l2, l3, l4, l5, l6, l7, l8] (.int x :: r) (σ, sz, k, c) = zk_run E (zk_VT E) M_X8_bestExit (C_X8_bestExit E) P PX K n 3 [l0, l1, l2, l3, zk_kl l4, some (.int x), l6, l7, l8] r (σ, sz, k, c)) ∧
  (∀ (n : Nat) (l0 l1 l2 l3 l4 l5 l6 l7 l8 : Option Value)  (r : List Value) (σ : zk_S) (sz k c : Nat), zk_run E (zk_VT E) M_X8_bestExit (C_X8_bestExit E) P PX K (n + 1) 3 [l0, l1, l2, l3, l4, l5, l6, l7, l8] r (σ, sz, k, c) = zk_run E (zk_VT E) M_X8_bestExit (C_X8_bestExit E) P PX K n 4 [l0, l1, l2, l3, l4, l5, l6, l7, l8] (.int ((-1)) :: r) (σ, sz, k, c)) ∧
  (∀ (n : Nat) (l0 l1 l2 l3 l4 l5 l6 l7 l8 : Option Value) (x : Int32) (r : List Value) (σ : zk_S) (sz k c : Nat), zk_run E (zk_VT E) M_X8_bestExit (C_X8_bestExit E) P PX K (n + 1) 4 [l0, l1, l2, l3, l4, l5, l6, l7, l8] (.int x :: r) (σ, sz, k, c) = zk_run E (zk_VT E) M_X8_bestExit (C_X8_bestExit E) P PX K n 6 [l0, l1, l2, l3, l4, zk_kl l5, some (.int x), l7, l8] r (σ, sz, k, c)) ∧
  (∀ (n : Nat) (l0 l1 l2 l3 l4 l5 l6 l7 l8 : Option Value)  (r : List Value) (σ : zk_S) (sz k c : Nat), zk_run E (zk_VT E) M_X8_bestExit (C_X8_bestExit E) P PX K (n + 1) 6 [l0, l1, l2, l3, l4, l5, l6, l7, l8] r (σ, sz, k, c) = zk_run E (zk_VT E) M_X8_bestExit (C_X8_bestExit E) P PX K n 7 [l0, l1, l2, l3, l4, l5, l6, l7, l8] (.int (0) :: r) (σ, sz, k, c)) ∧
  (∀ (n : Nat) (l0 l1 l2 l3 l4 l5 l6 l7 l8 : Option Value) (x : Int32) (r : List Value) (σ : zk_S) (sz k c : Nat), zk_run E (zk_VT E) M_X8_bestExit (C_X8_bestExit E) P PX K (n + 1) 7 [l0, l1, l2, l3, l4, l5, l6, l7, l8] (.int x :: r) (σ, sz, k, c) = zk_run E (zk_VT E) M_X8_bestExit (C_X8_bestExit E) P PX K n 9 [l0, l1, l2, l3, l4, l5, zk_kl l6, some (.int x), l8] r (σ, sz, k, c)) ∧
  (∀ (n : Nat) (l0 l1 l2 l3 l4 l5 l6 l7 l8 : Option Value)  (r : List Value) (σ : zk_S) (sz k c : Nat), zk_run E (zk_VT E) M_X8_bestExit (C_X8_bestExit E) P PX K (n + 1) 9 [l0, l1, l2, l3, l4, l5, l6, l7, l8] r (σ, sz, k, c) = K 9 [l0, l1, l2, l3, l4, l5, l6, l7, l8] r (σ, sz, k, c)) ∧
  (∀ (n : Nat) (l0 l1 l2 l3 l4 l5 l6 l7 l8 : Option Value)  (r : List Value) (σ : zk_S) (sz k c : Nat), zk_run E (zk_VT E) M_X8_bestExit (C_X8_bestExit E) P PX K (n + 1) 11 [l0, l1, l2, l3, l4, l5, l6, l7, l8] r (σ, sz, k, c) = zk_run E (zk_VT E) M_X8_bestExit (C_X8_bestExit E) P PX K n 13 [l0, l1, l2, l3, l4, l5, l6, l7, l8] (.int (50) :: r) (σ, sz, k, c)) ∧
  (∀ (n : Nat) (l0 l1 l2 l3 l4 l5 l6 l7 l8 : Option Value) (x y : Int32) (r : List Value) (σ : zk_S) (sz k c : Nat), zk_run E (zk_VT E) M_X8_bestExit (C_X8_bestExit E) P PX K (n + 1) 13 [l0, l1, l2, l3, l4, l5, l6, l7, l8] (.int y :: .int x :: r) (σ, sz, k, c) = ((y ≤ x → zk_run E (zk_VT E) M_X8_bestExit (C_X8_bestExit E) P PX K n 53 [l0, l1, l2, l3, l4, l5, l6, l7, l8] r (σ, sz, k, c)) ∧ (¬ (y ≤ x) → zk_run E (zk_VT E) M_X8_bestExit (C_X8_bestExit E) P PX K n 16 [l0, l1, l2, l3, l4, l5, l6, l7, l8] r (σ, sz, k, c)))) ∧
  (∀ (n : Nat) (l1 l2 l3 l4 l5 l6 l7 l8 : Option Value) (y0 : Value) (r : List Value) (σ : zk_S) (sz k c : Nat), zk_run E (zk_VT E) M_X8_bestExit (C_X8_bestExit E) P PX K (n + 1) 16 [some y0, l1, l2, l3, l4, l5, l6, l7, l8] r (σ, sz, k, c) = (zk_isr y0 ∧ zk_run E (zk_VT E) M_X8_bestExit (C_X8_bestExit E) P PX K n 17 [some y0, l1, l2, l3, l4, l5, l6, l7, l8] (y0 :: r) (σ, sz, k, c))) ∧
  (∀ (n : Nat) (l0 l2 l3 l4 l5 l6 l7 l8 : Option Value) (y1 : Value) (r : List Value) (σ : zk_S) (sz k c : Nat), zk_run E (zk_VT E) M_X8_bestExit (C_X8_bestExit E) P PX K (n + 1) 17 [l0, some y1, l2, l3, l4, l5, l6, l7, l8] r (σ, sz, k, c) = (zk_isr y1 ∧ zk_run E (zk_VT E) M_X8_bestExit (C_X8_bestExit E) P PX K n 18 [l0, some y1, l2, l3, l4, l5, l6, l7, l8] (y1 :: r) (σ, sz, k, c))) ∧
  (∀ (n : Nat) (l0 l1 l3 l4 l5 l6 l7 l8 : Option Value) (y2 : Value) (r : List Value) (σ : zk_S) (sz k c : Nat), zk_run E (zk_VT E) M_X8_bestExit (C_X8_bestExit E) P PX K (n + 1) 18 [l0, l1, some y2, l3, l4, l5, l6, l7, l8] r (σ, sz, k, c) = (zk_isr y2 ∧ zk_run E (zk_VT E) M_X8_bestExit (C_X8_bestExit E) P PX K n 19 [l0, l1, some y2, l3, l4, l5, l6, l7, l8] (y2 :: r) (σ, sz, k, c))) ∧
  (∀ (n : Nat) (l0 l1 l2 l3 l4 l5 l6 l8 : Option Value) (y7 : Int32) (r : List Value) (σ : zk_S) (sz k c : Nat), zk_run E (zk_VT E) M_X8_bestExit (C_X8_bestExit E) P PX K (n + 1) 19 [l0, l1, l2, l3, l4, l5, l6, some (.int y7), l8] r (σ, sz, k, c) = zk_run E (zk_VT E) M_X8_bestExit (C_X8_bestExit E) P PX K n 21 [l0, l1, l2, l3, l4, l5, l6, some (.int y7), l8] (.int y7 :: r) (σ, sz, k, c)) ∧
  (∀ (n : Nat) (l0 l1 l2 l4 l5 l6 l7 l8 : Option Value) (y3 : Int32) (r : List Value) (σ : zk_S) (sz k c : Nat), zk_run E (zk_VT E) M_X8_bestExit (C_X8_bestExit E) P PX K (n + 1) 21 [l0, l1, l2, some (.int y3), l4, l5, l6, l7, l8] r (σ, sz, k, c) = zk_run E (zk_VT E) M_X8_bestExit (C_X8_bestExit E) P PX K n 22 [l0, l1, l2, some (.int y3), l4, l5, l6, l7, l8] (.int y3 :: r) (σ, sz, k, c)) ∧
  (∀ (n : Nat) (l0 l1 l2 l3 l5 l6 l7 l8 : Option Value) (y4 : Int32) (r : List Value) (σ : zk_S) (sz k c : Nat), zk_run E (zk_VT E) M_X8_bestExit (C_X8_bestExit E) P PX K (n + 1) 22 [l0, l1, l2, l3, some (.int y4), l5, l6, l7, l8] r (σ, sz, k, c) = zk_run E (zk_VT E) M_X8_bestExit (C_X8_bestExit E) P PX K n 24 [l0, l1, l2, l3, some (.int y4), l5, l6, l7, l8] (.int y4 :: r) (σ, sz, k, c)) ∧
  (∀ (n : Nat) (l0 l1 l2 l3 l4 l5 l6 l7 l8 : Option Value) (v0 : Value) (v1 : Value) (v2 : Value) (v3 : Value) (v4 : Value) (v5 : Value)  (σ : zk_S) (sz k c : Nat), zk_run E (zk_VT E) M_X8_bestExit (C_X8_bestExit E) P PX K (n + 1) 24 [l0, l1, l2, l3, l4, l5, l6, l7, l8] [v0, v1, v2, v3, v4, v5] (σ, sz, k, c) = (k + 0 ≤ 0 ∧ c + 0 ≤ 0 ∧ (zk_rv (zk_VT E) (fun ci => Nat.beq ci 7) (sp_X8_wayBy E)) [v5, v4, v3, v2, v1, v0] σ sz (fun v s2 z2 => zk_run E (zk_VT E) M_X8_bestExit (C_X8_bestExit E) P PX K n 27 [l0, l1, l2, l3, l4, l5, l6, l7, l8] (zk_psh v []) (s2, z2, k + 0, c + 0)) (fun X s2 z2 => PX X s2 z2))) ∧
  (∀ (n : Nat) (l0 l1 l2 l3 l4 l5 l6 l7 l8 : Option Value) (x : Int32) (r : List Value) (σ : zk_S) (sz k c : Nat), zk_run E (zk_VT E) M_X8_bestExit (C_X8_bestExit E) P PX K (n + 1) 27 [l0, l1, l2, l3, l4, l5, l6, l7, l8] (.int x :: r) (σ, sz, k, c) = zk_run E (zk_VT E) M_X8_bestExit (C_X8_bestExit E) P PX K n 29 [l0, l1, l2, l3, l4, l5, l6, zk_kl l7, some (.int x)] r (σ, sz, k, c)) ∧
  (∀ (n : Nat) (l0 l1 l2 l3 l4 l5 l6 l7 : Option Value) (y8 : Int32) (r : List Value) (σ : zk_S) (sz k c : Nat), zk_run E (zk_VT E) M_X8_bestExit (C_X8_bestExit E) P PX K (n + 1) 29 [l0, l1, l2, l3, l4, l5, l6, l7, some (.int y8)] r (σ, sz, k, c) = zk_run E (zk_VT E) M_X8_bestExit (C_X8_bestExit E) P PX K n 31 [l0, l1, l2, l3, l4, l5, l6, l7, some (.int y8)] (.int y8 :: r) (σ, sz, k, c)) ∧
  (∀ (n : Nat) (l0 l1 l2 l3 l4 l5 l7 l8 : Option Value) (y6 : Int32) (r : List Value) (σ : zk_S) (sz k c : Nat), zk_run E (zk_VT E) M_X8_bestExit (C_X8_bestExit E) P PX K (n + 1) 31 [l0, l1, l2, l3, l4, l5, some (.int y6), l7, l8] r (σ, sz, k, c) = zk_run E (zk_VT E) M_X8_bestExit (C_X8_bestExit E) P PX K n 33 [l0, l1, l2, l3, l4, l5, some (.int y6), l7, l8] (.int y6 :: r) (σ, sz, k, c)) ∧
  (∀ (n : Nat) (l0 l1 l2 l3 l4 l5 l6 l7 l8 : Option Value) (v0 : Value) (v1 : Value)  (σ : zk_S) (sz k c : Nat), zk_run E (zk_VT E) M_X8_bestExit (C_X8_bestExit E) P PX K (n + 1) 33 [l0, l1, l2, l3, l4, l5, l6, l7, l8] [v0, v1] (σ, sz, k, c) = (k + 0 ≤ 0 ∧ c + 0 ≤ 0 ∧ (sp_X8_isLess E) [v1, v0] σ sz (fun v s2 z2 => zk_run E (zk_VT E) M_X8_bestExit (C_X8_bestExit E) P PX K n 36 [l0, l1, l2, l3, l4, l5, l6, l7, l8] (zk_psh v []) (s2, z2, k + 0, c + 0)) (fun X s2 z2 => PX X s2 z2))) ∧
  (∀ (n : Nat) (l0 l1 l2 l3 l4 l5 l6 l7 l8 : Option Value) (x : Int32) (r : List Value) (σ : zk_S) (sz k c : Nat), zk_run E (zk_VT E) M_X8_bestExit (C_X8_bestExit E) P PX K (n + 1) 36 [l0, l1, l2, l3, l4, l5, l6, l7, l8] (.int x :: r) (σ, sz, k, c) = ((x = 0 → zk_run E (zk_VT E) M_X8_bestExit (C_X8_bestExit E) P PX K n 47 [l0, l1, l2, l3, l4, l5, l6, l7, l8] r (σ, sz, k, c)) ∧ (¬ (x = 0) → zk_run E (zk_VT E) M_X8_bestExit (C_X8_bestExit E) P PX K n 39 [l0, l1, l2, l3, l4, l5, l6, l7, l8] r (σ, sz, k, c)))) ∧
  (∀ (n : Nat) (l0 l1 l2 l3 l4 l5 l6 l8 : Option Value) (y7 : Int32) (r : List Value) (σ : zk_S) (sz k c : Nat), zk_run E (zk_VT E) M_X8_bestExit (C_X8_bestExit E) P PX K (n + 1) 39 [l0, l1, l2, l3, l4, l5, l6, some (.int y7), l8] r (σ, sz, k, c) = zk_run E (zk_VT E) M_X8_bestExit (C_X8_bestExit E) P PX K n 41 [l0, l1, l2, l3, l4, l5, l6, some (.int y7), l8] (.int y7 :: r) (σ, sz, k, c)) ∧
  (∀ (n : Nat) (l0 l1 l2 l3 l4 l5 l6 l7 l8 : Option Value) (x : Int32) (r : List Value) (σ : zk_S) (sz k c : Nat), zk_run E (zk_VT E) M_X8_bestExit (C_X8_bestExit E) P PX K (n + 1) 41 [l0, l1, l2, l3, l4, l5, l6, l7, l8] (.int x :: r) (σ, sz, k, c) = zk_run E (zk_VT E) M_X8_bestExit (C_X8_bestExit E) P PX K n 43 [l0, l1, l2, l3, zk_kl l4, some (.int x), l6, l7, l8] r (σ, sz, k, c)) ∧
  (∀ (n : Nat) (l0 l1 l2 l3 l4 l5 l6 l7 : Option Value) (y8 : Int32) (r : List Value) (σ : zk_S) (sz k c : Nat), zk_run E (zk_VT E) M_X8_bestExit (C_X8_bestExit E) P PX K (n + 1) 43 [l0, l1, l2, l3, l4, l5, l6, l7, some (.int y8)] r (σ, sz, k, c) = zk_run E (zk_VT E) M_X8_bestExit (C_X8_bestExit E) P PX K n 45 [l0, l1, l2, l3, l4, l5, l6, l7, some (.int y8)] (.int y8 :: r) (σ, sz, k, c)) ∧
  (∀ (n : Nat) (l0 l1 l2 l3 l4 l5 l6 l7 l8 : Option Value) (x : Int32) (r : List Value) (σ : zk_S) (sz k c : Nat), zk_run E (zk_VT E) M_X8_bestExit (C_X8_bestExit E) P PX K (n + 1) 45 [l0, l1, l2, l3, l4, l5, l6, l7, l8] (.int x :: r) (σ, sz, k, c) = zk_run E (zk_VT E) M_X8_bestExit (C_X8_bestExit E) P PX K n 47 [l0, l1, l2, l3, l4, zk_kl l5, some (.int x), l7, l8] r (σ, sz, k, c)) ∧
  (∀ (n : Nat) (l0 l1 l2 l3 l4 l5 l6 l8 : Option Value) (y7 : Int32) (r : List Value) (σ : zk_S) (sz k c : Nat), zk_run E (zk_VT E) M_X8_bestExit (C_X8_bestExit E) P PX K (n + 1) 47 [l0, l1, l2, l3, l4, l5, l6, some (.int y7), l8] r (σ, sz, k, c) = zk_run E (zk_VT E) M_X8_bestExit (C_X8_bestExit E) P PX K n 50 [l0, l1, l2, l3, l4, l5, zk_kl l6, some (.int (y7 + 1)), l8] r (σ, sz, k, c)) ∧
  (∀ (n : Nat) (l0 l1 l2 l3 l4 l5 l6 l7 l8 : Option Value)  (r : List Value) (σ : zk_S) (sz k c : Nat), zk_run E (zk_VT E) M_X8_bestExit (C_X8_bestExit E) P PX K (n + 1) 50 [l0, l1, l2, l3, l4, l5, l6, l7, l8] r (σ, sz, k, c) = zk_run E (zk_VT E) M_X8_bestExit (C_X8_bestExit E) P PX K n 9 [l0, l1, l2, l3, l4, l5, l6, l7, l8] r (σ, sz, k, c)) ∧
  (∀ (n : Nat) (l0 l1 l2 l3 l4 l6 l7 l8 : Option Value) (y5 : Int32) (r : List Value) (σ : zk_S) (sz k c : Nat), zk_run E (zk_VT E) M_X8_bestExit (C_X8_bestExit E) P PX K (n + 1) 53 [l0, l1, l2, l3, l4, some (.int y5), l6, l7, l8] r (σ, sz, k, c) = zk_run E (zk_VT E) M_X8_bestExit (C_X8_bestExit E) P PX K n 55 [l0, l1, l2, l3, l4, some (.int y5), l6, l7, l8] (.int y5 :: r) (σ, sz, k, c)) ∧
  (∀ (n : Nat) (l0 l1 l2 l3 l4 l5 l6 l7 l8 : Option Value) (x : Int32)  (σ : zk_S) (sz k c : Nat), zk_run E (zk_VT E) M_X8_bestExit (C_X8_bestExit E) P PX K (n + 1) 55 [l0, l1, l2, l3, l4, l5, l6, l7, l8] [.int x] (σ, sz, k, c) = (zk_nok (some (.int)) x ∧ P (some (.int x)) σ sz ∧ k ≤ 0 ∧ c ≤ 0)) ∧
  (∀ (n : Nat) (l0 l1 l2 l3 l4 l5 l6 l7 l8 : Option Value) (r : List Value) (w : zk_W zk_S), zk_go E (zk_VT E) M_X8_bestExit (C_X8_bestExit E) P PX K n 0 [l0, l1, l2, l3, l4, l5, l6, l7, l8] r w = zk_run E (zk_VT E) M_X8_bestExit (C_X8_bestExit E) P PX K (n + 1) 0 [l0, l1, l2, l3, l4, l5, l6, l7, l8] r w) ∧
  (∀ (n : Nat) (l0 l1 l2 l3 l4 l5 l6 l8 : Option Value) (y7 : Int32) (r : List Value) (σ : zk_S) (sz k c : Nat), zk_go E (zk_VT E) M_X8_bestExit (C_X8_bestExit E) P PX K n 9 [l0, l1, l2, l3, l4, l5, l6, some (.int y7), l8] r (σ, sz, k, c) = zk_run E (zk_VT E) M_X8_bestExit (C_X8_bestExit E) P PX K n 11 [l0, l1, l2, l3, l4, l5, l6, some (.int y7), l8] (.int y7 :: r) (σ, sz, k, c)) := ⟨by intros; rfl, by intros; rfl, by intros; rfl, by intros; rfl, by intros; rfl, by intros; rfl, by intros; rfl, by intros; rfl, by intros; rfl, by intros; rfl, by intros; rfl, by intros; rfl, by intros; rfl, by intros; rfl, by intros; rfl, by intros; rfl, by intros; rfl, by intros; rfl, by intros; rfl, by intros; rfl, by intros; rfl, by intros; rfl, by intros; rfl, by intros; rfl, by intros; rfl, by intros; rfl, by intros; rfl, by intros; rfl, by intros; rfl, by intros; rfl, by intros; rfl⟩
theorem vc_X8_bestExit (E : zk_E) : zk_VC E (zk_VT E) M_X8_bestExit (C_X8_bestExit E) 9 (sp_X8_bestExit E) := by
  intro av σ sz P PX h
  obtain ⟨J, N, Q, O, U⟩ := σ
  unfold sp_X8_bestExit at h
  split at h
  case h_2 => exact h.elim
  rename_i a0 p b px py
  obtain ⟨rfl, h⟩ := h
  refine ⟨Nat.le_of_ble_eq_true rfl, fun G hG => ?_⟩
  change G 0 [some (.ref (zk_ad E 7)), some (.ref p), some (.ref b), some (.int px), some (.int py), none, none, none, none] [] ((J, N, Q, O, U), sz, 0, 0)
  try dsimp only at h
  obtain ⟨rfl, J1, N1, fl, j, x, y, hmi, hxr, hwa, hj, hb, hx, hy, rfl, rfl, h⟩ := h
  have hj20 := hj.lt hmi
  have loop : ∀ m k l8, k + m = 50 → G 9 [some (.ref (zk_ad E 7)), some (.ref (zk_ad E 1)), some (.ref b), some (.int (nI x)), some (.int (nI y)), some (.int (bex (g_bsl J1 N1 (LL J1 N1) (nI j) x y (m_actN J1 N1 (2 * k))).2)), some (.int (wi (g_bsl J1 N1 (LL J1 N1) (nI j) x y (m_actN J1 N1 (2 * k))).1)), some (.int (nI k)), l8] [] ((J, N, Q, O, U), sz, 0, 0) := by
    intro m
    induction m with
    | zero =>
      intro k l8 hk
      have c1 : (50 : Int32) ≤ nI k := (nI_le (a := 50) (by omega) (by omega) : nI 50 ≤ nI k)
      have ek : k = 50 := by omega
      subst ek
      (refine hG 900 _ _ _ _ ?_; simp only [r_X8_bestExit, zk_kl_none, zk_kl_int, zk_kl_ref, zk_kl_null, zk_kl_long, zk_kl_rf, zk_isr_ref, zk_isr_null, zk_isr_rf9, zk_c1_int, zk_c1_ref, zk_c1_null, zk_c1_rf, zk_psh_some, zk_psh_none, zk_nok_int, zk_nok_bool0, zk_nok_bool1, zk_nok_b, zk_fok_0, zk_fok_1, zk_fok_2, zk_fok_n, zk_fok_rf, zb_f, zb_p, zb_i, zb_a, zb_s, zk_nth_0, zk_nth_s, zk_fld_o, zk_put_o, zk_rv_eq, zk_ri_eq, zk_is_o, List.mem_cons, List.not_mem_nil, or_false, false_or, or_true, true_or, and_true, true_and, not_false_iff, not_true_eq_false, true_implies, false_implies, imp_self, implies_true, forall_const, zk_lit, zk_uj_ap, zk_un_ap, zk_un_un, zk_uj_uj, Nat.reduceEqDiff, eq_self, zk_bq, Bool.true_or, Bool.false_or, Nat.le_refl, Nat.zero_add, Nat.add_zero, Nat.reduceAdd, Nat.reduceLeDiff, Nat.le_zero_eq, and_self, and_false, false_and, ite_true, ite_false, Nat.zero_le, List.length_cons, List.length_nil, Option.some.injEq, forall_eq', reduceCtorEq, c1])
      exact h
    | succ m ih =>
      intro k l8 hk
      have c1 : ¬ (50 : Int32) ≤ nI k := (nI_ge (b := 50) (by omega) (by decide) : ¬ nI 50 ≤ nI k)
      have ih2 := fun l8 => ih (k + 1) l8 (by omega)
      rw [show 2 * (k + 1) = 2 * k + 1 + 1 by omega, bs_succ hj20, bs_succ hj20] at ih2
      have hok := g_bsl_ok (J := J1) (N := N1) (v := LL J1 N1) (r := nI j) (x := x) (y := y) (L := m_actN J1 N1 (2 * k)) (fun e he => by
        have q := List.mem_filter.mp he
        have := List.mem_range.mp q.1
        omega)
      generalize g_bsl J1 N1 (LL J1 N1) (nI j) x y (m_actN J1 N1 (2 * k)) = p at hok ih2 ⊢
      have hwb := wbe_le (j := j) (x := x) (y := y) (e := 2 * k) hmi hj20 (by omega) hx hy
      have hwI : wby J1 N1 j x y k ≤ INF := by unfold wby; omega
      (refine hG 900 _ _ _ _ ?_; simp only [r_X8_bestExit, zk_kl_none, zk_kl_int, zk_kl_ref, zk_kl_null, zk_kl_long, zk_kl_rf, zk_isr_ref, zk_isr_null, zk_isr_rf9, zk_c1_int, zk_c1_ref, zk_c1_null, zk_c1_rf, zk_psh_some, zk_psh_none, zk_nok_int, zk_nok_bool0, zk_nok_bool1, zk_nok_b, zk_fok_0, zk_fok_1, zk_fok_2, zk_fok_n, zk_fok_rf, zb_f, zb_p, zb_i, zb_a, zb_s, zk_nth_0, zk_nth_s, zk_fld_o, zk_put_o, zk_rv_eq, zk_ri_eq, zk_is_o, List.mem_cons, List.not_mem_nil, or_false, false_or, or_true, true_or, and_true, true_and, not_false_iff, not_true_eq_false, true_implies, false_implies, imp_self, implies_true, forall_const, zk_lit, zk_uj_ap, zk_un_ap, zk_un_un, zk_uj_uj, Nat.reduceEqDiff, eq_self, zk_bq, Bool.true_or, Bool.false_or, Nat.le_refl, Nat.zero_add, Nat.add_zero, Nat.reduceAdd, Nat.reduceLeDiff, Nat.le_zero_eq, and_self, and_false, false_and, ite_true, ite_false, Nat.zero_le, List.length_cons, List.length_nil, Option.some.injEq, forall_eq', reduceCtorEq, c1, spe_X8_wayBy])
      refine ⟨J1, N1, fl, j, x, y, hmi, hxr, hwa, hj, hb, hx, hy, rfl, rfl, Or.inr ⟨k, by omega, rfl, ?_⟩⟩
      have hl := w_less_wi hwI hok.1
      rcases bs_wby (i := k) hmi hj20 (by omega) hx hy hok.1 hok.2 with ⟨w1, e, w2, w3, w4⟩ | ⟨w1, w3⟩
      · rw [w3] at ih2
        rw [decide_eq_true w1] at hl
        have eb : bex e = nI k := by unfold bex; rw [if_neg (by omega), w2]
        dsimp only at ih2
        rw [eb] at ih2
        simp only [r_X8_bestExit, zk_kl_none, zk_kl_int, zk_kl_ref, zk_kl_null, zk_kl_long, zk_kl_rf, zk_isr_ref, zk_isr_null, zk_isr_rf9, zk_c1_int, zk_c1_ref, zk_c1_null, zk_c1_rf, zk_psh_some, zk_psh_none, zk_nok_int, zk_nok_bool0, zk_nok_bool1, zk_nok_b, zk_fok_0, zk_fok_1, zk_fok_2, zk_fok_n, zk_fok_rf, zb_f, zb_p, zb_i, zb_a, zb_s, zk_nth_0, zk_nth_s, zk_fld_o, zk_put_o, zk_rv_eq, zk_ri_eq, zk_is_o, List.mem_cons, List.not_mem_nil, or_false, false_or, or_true, true_or, and_true, true_and, not_false_iff, not_true_eq_false, true_implies, false_implies, imp_self, implies_true, forall_const, zk_lit, zk_uj_ap, zk_un_ap, zk_un_un, zk_uj_uj, Nat.reduceEqDiff, eq_self, zk_bq, Bool.true_or, Bool.false_or, Nat.le_refl, Nat.zero_add, Nat.add_zero, Nat.reduceAdd, Nat.reduceLeDiff, Nat.le_zero_eq, and_self, and_false, false_and, ite_true, ite_false, Nat.zero_le, List.length_cons, List.length_nil, Option.some.injEq, forall_eq', reduceCtorEq, spe_X8_isLess, hl, zk_b0, Bool.true_eq_false, n_succ]
        exact ih2 _
      · rw [w3] at ih2
        rw [decide_eq_false w1] at hl
        simp only [r_X8_bestExit, zk_kl_none, zk_kl_int, zk_kl_ref, zk_kl_null, zk_kl_long, zk_kl_rf, zk_isr_ref, zk_isr_null, zk_isr_rf9, zk_c1_int, zk_c1_ref, zk_c1_null, zk_c1_rf, zk_psh_some, zk_psh_none, zk_nok_int, zk_nok_bool0, zk_nok_bool1, zk_nok_b, zk_fok_0, zk_fok_1, zk_fok_2, zk_fok_n, zk_fok_rf, zb_f, zb_p, zb_i, zb_a, zb_s, zk_nth_0, zk_nth_s, zk_fld_o, zk_put_o, zk_rv_eq, zk_ri_eq, zk_is_o, List.mem_cons, List.not_mem_nil, or_false, false_or, or_true, true_or, and_true, true_and, not_false_iff, not_true_eq_false, true_implies, false_implies, imp_self, implies_true, forall_const, zk_lit, zk_uj_ap, zk_un_ap, zk_un_un, zk_uj_uj, Nat.reduceEqDiff, eq_self, zk_bq, Bool.true_or, Bool.false_or, Nat.le_refl, Nat.zero_add, Nat.add_zero, Nat.reduceAdd, Nat.reduceLeDiff, Nat.le_zero_eq, and_self, and_false, false_and, ite_true, ite_false, Nat.zero_le, List.length_cons, List.length_nil, Option.some.injEq, forall_eq', reduceCtorEq, spe_X8_isLess, hl, zk_b0, n_succ]
        exact ih2 _
  have l0 := loop 50 0 none (by omega)
  rw [show g_bsl J1 N1 (LL J1 N1) (nI j) x y (m_actN J1 N1 (2 * 0)) = (INF, 100) from rfl, show bex (INF, 100).2 = -1 by decide, show wi (INF, 100).1 = -1 by decide] at l0
  (refine hG 900 _ _ _ _ ?_; simp only [r_X8_bestExit, zk_kl_none, zk_kl_int, zk_kl_ref, zk_kl_null, zk_kl_long, zk_kl_rf, zk_isr_ref, zk_isr_null, zk_isr_rf9, zk_c1_int, zk_c1_ref, zk_c1_null, zk_c1_rf, zk_psh_some, zk_psh_none, zk_nok_int, zk_nok_bool0, zk_nok_bool1, zk_nok_b, zk_fok_0, zk_fok_1, zk_fok_2, zk_fok_n, zk_fok_rf, zb_f, zb_p, zb_i, zb_a, zb_s, zk_nth_0, zk_nth_s, zk_fld_o, zk_put_o, zk_rv_eq, zk_ri_eq, zk_is_o, List.mem_cons, List.not_mem_nil, or_false, false_or, or_true, true_or, and_true, true_and, not_false_iff, not_true_eq_false, true_implies, false_implies, imp_self, implies_true, forall_const, zk_lit, zk_uj_ap, zk_un_ap, zk_un_un, zk_uj_uj, Nat.reduceEqDiff, eq_self, zk_bq, Bool.true_or, Bool.false_or, Nat.le_refl, Nat.zero_add, Nat.add_zero, Nat.reduceAdd, Nat.reduceLeDiff, Nat.le_zero_eq, and_self, and_false, false_and, ite_true, ite_false, Nat.zero_le, List.length_cons, List.length_nil, Option.some.injEq, forall_eq', reduceCtorEq])
  exact l0
theorem ct_X8_bestExit {l : Launch} (hl : l.stackTraces = false) (E : zk_E) : zk_C l E (zk_VT E) yX8_bestExit cX8_bestExit 9 (some (.int)) rm_X8_bestExit (sp_X8_bestExit E) := by
  refine zk_meth (M := M_X8_bestExit) (C := C_X8_bestExit E) hl (by decide +kernel) rfl (fun _ _ => rfl) (zk_VT_ok E) MO_X8_bestExit TO_X8_bestExit THo_X8_bestExit ?_ (vc_X8_bestExit E)
  exact fun p e s m args below meth c X pc n mc ms sp2 h => by
    have h2 := zk_lka_mem h
    simp only [List.mem_cons, List.not_mem_nil, or_false, Prod.mk.injEq] at h2
    rcases h2 with ⟨rfl, rfl, rfl, rfl, rfl⟩ | ⟨rfl, rfl, rfl, rfl, rfl⟩
    · exact zk_coV (idx := 104) X (ct_X8_wayBy hl E) (List.forall_mem_cons.mpr ⟨zk_wi 154 (by decide +kernel) rfl, List.forall_mem_cons.mpr ⟨zk_wi 155 (by decide +kernel) rfl, List.forall_mem_cons.mpr ⟨zk_wi 156 (by decide +kernel) rfl, List.forall_mem_cons.mpr ⟨zk_wi 4 (by decide +kernel) rfl, List.forall_mem_cons.mpr ⟨zk_wi 157 (by decide +kernel) rfl, fun _ h => absurd h List.not_mem_nil⟩⟩⟩⟩⟩) (fun ci h => by
      have h := Nat.eq_of_beq_eq_true h
      subst h
      exact ⟨_, _, rfl⟩) (by decide +kernel) ⟨by decide, by decide, by decide +kernel⟩ ⟨by decide, by decide⟩
    · exact zk_coS (idx := 60) X (ct_X8_isLess hl E) (List.forall_mem_cons.mpr ⟨zk_wi 143 (by decide +kernel) rfl, List.forall_mem_cons.mpr ⟨zk_wi 144 (by decide +kernel) rfl, List.forall_mem_cons.mpr ⟨zk_wi 4 (by decide +kernel) rfl, List.forall_mem_cons.mpr ⟨zk_wi 145 (by decide +kernel) rfl, fun _ h => absurd h List.not_mem_nil⟩⟩⟩⟩) (by decide +kernel) ⟨by decide, by decide, by decide +kernel⟩ ⟨by decide, by decide⟩
/-- no room there: no exit of it -/
theorem bb_gone {J N : Nat → Nat → Int32} {k : Nat} (hmi : MI J N) (hk : k < 20) (h : ¬ MR J N k) : BB J N k = (INF, 100) := g_bsl_gone _ (fun e he q => by
  obtain ⟨r, r1, r2, -⟩ := m_ends hmi he
  have := r1.lt hmi
  rw [r2, n_inj (by omega) (by omega)] at q
  exact h (q ▸ r1))
theorem wbe_one {J N : Nat → Nat → Int32} {j x y i : Nat} (hmi : MI J N) (hj : j < 20) : wbe J N j x y (2 * i) = INF ∨ wbe J N j x y (2 * i + 1) = INF := by
  by_cases q : m_from J N (2 * i) = nI j ∧ LL J N (2 * i) < INF
  · right
    unfold wbe
    rw [if_neg]
    intro z
    by_cases w : MX J N i ∧ eo N i
    · obtain ⟨f1, f2⟩ := from_yes hmi w.1 w.2
      obtain ⟨r, r1, r2, r3⟩ := ends_e hmi w.1
      have r20 := r1.lt hmi
      have q1 := q.1
      have z1 := z.1
      rw [f1, r2, n_inj (by omega) (by omega)] at q1
      rw [f2] at z1
      rcases r3 with r3 | ⟨q', a1, a2, a3⟩
      · rw [if_pos r3] at z1; exact nI_ne2 (r := j) (by omega) z1.symm
      · have a20 := a1.lt hmi
        rw [a3, if_neg (nI_ne1 (by omega)), n_inj (by omega) (by omega)] at z1
        omega
    · rw [(from_no w).1] at q
      exact nI_ne2 (r := j) (by omega) q.1.symm
  · left; unfold wbe; rw [if_neg q]
theorem wby_best {J N : Nat → Nat → Int32} {j x y : Nat} (hmi : MI J N) (hj : j < 20) (hx : x ≤ 400) (hy : y ≤ 400) (h : ¬ (g_best J N (LL J N) (nI j) x y).2 = 100) : (g_best J N (LL J N) (nI j) x y).2 < 100 ∧ wby J N j x y ((g_best J N (LL J N) (nI j) x y).2 / 2) = (g_best J N (LL J N) (nI j) x y).1 ∧ (g_best J N (LL J N) (nI j) x y).1 < INF := by
  rcases g_bsl_at (J := J) (N := N) (v := LL J N) (r := nI j) (x := x) (y := y) (m_act J N) with q | ⟨q1, q2, q3, q4⟩
  · exact absurd (by unfold g_best; rw [q]) h
  · change (g_best J N (LL J N) (nI j) x y).2 ∈ _ at q1
    change m_from J N (g_best J N (LL J N) (nI j) x y).2 = _ at q2
    change LL J N (g_best J N (LL J N) (nI j) x y).2 < _ at q3
    change (g_best J N (LL J N) (nI j) x y).1 = dN (g_x N (g_best J N (LL J N) (nI j) x y).2) (g_y N (g_best J N (LL J N) (nI j) x y).2) x y + LL J N (g_best J N (LL J N) (nI j) x y).2 at q4
    generalize (g_best J N (LL J N) (nI j) x y).2 = e at *
    have he := (m_act_mem.mp q1).1
    have w0 : wbe J N j x y e = dN (g_x N e) (g_y N e) x y + LL J N e := by unfold wbe; rw [if_pos ⟨q2, q3⟩]
    have h1 := LL_B hmi q1 q3
    have hg := m_gx hmi q1
    have hd := dN_le hg.1.2 hg.2.2 hx hy
    have one := wbe_one (x := x) (y := y) (i := e / 2) hmi hj
    have lt : dN (g_x N e) (g_y N e) x y + LL J N e < INF := by unfold INF; omega
    refine ⟨he, ?_, by rw [q4]; exact lt⟩
    rw [q4]
    unfold wby
    rcases Nat.mod_two_eq_zero_or_one e with z | z
    · have e2 : 2 * (e / 2) = e := by omega
      rw [e2] at one ⊢
      rw [w0] at one ⊢
      omega
    · have e2 : 2 * (e / 2) + 1 = e := by omega
      rw [e2] at one ⊢
      rw [w0] at one ⊢
      omega
/-- lost, or not: the same from every point -/
theorem best_lost {J N : Nat → Nat → Int32} {j x y x2 y2 : Nat} (hmi : MI J N) (hx : x ≤ 400) (hy : y ≤ 400) (hx2 : x2 ≤ 400) (hy2 : y2 ≤ 400) (h : (g_best J N (LL J N) (nI j) x y).1 = INF) : (g_best J N (LL J N) (nI j) x2 y2).1 = INF := by
  rw [best_fst] at h ⊢
  have hle := g_least_INF J N (LL J N) (nI j) (-1) x2 y2
  rcases Nat.lt_or_ge (g_least J N (LL J N) (nI j) (-1) x2 y2) INF with q | q
  · exfalso
    rcases (g_least_le (J := J) (N := N) (v := LL J N) (r := nI j) (b := -1) (x := x2) (y := y2)).mp (Nat.le_refl _) with w | ⟨e, e1, e2, e3⟩
    · omega
    · have h1 := LL_B hmi e1 e2.2.2
      have hg := m_gx hmi e1
      have hd := dN_le hg.1.2 hg.2.2 hx hy
      have : g_least J N (LL J N) (nI j) (-1) x y ≤ dN (g_x N e) (g_y N e) x y + LL J N e := g_least_le.mpr (Or.inr ⟨e, e1, e2, Nat.le_refl _⟩)
      rw [h] at this
      unfold INF at this
      omega
  · omega
/-- the greatest of the corners, as the class adds it up -/
def fcl (J N : Nat → Nat → Int32) (j : Nat) : Nat → Int32
  | 0 => -1
  | c + 1 => i_max (fcl J N j c) (wi (g_cor J N j c))
theorem fcl_eq {J N : Nat → Nat → Int32} {j : Nat} (hmi : MI J N) (hj : j < m_nr J) : fcl J N j 4 = a_far J N j := by
  have hbb := g_bsl_ok (J := J) (N := N) (v := LL J N) (r := nI j) (x := g_mx N j) (y := g_my N j) (L := m_act J N) (fun e he => (m_act_mem.mp he).1)
  obtain ⟨⟨-, m1⟩, -, m2⟩ := g_mx_eq hmi hj
  have cor : ∀ c, c < 4 → g_cor J N j c = (g_best J N (LL J N) (nI j) (2 * ((N 24 j).toNatClampNeg + c % 2 * (N 26 j).toNatClampNeg)) (2 * ((N 25 j).toNatClampNeg + c / 2 * (N 27 j).toNatClampNeg))).1 := fun c hc => by
    rw [best_fst]; rfl
  unfold a_far
  by_cases q : lea J N j = 100
  · rw [if_pos q]
    have h1 : (g_best J N (LL J N) (nI j) (g_mx N j) (g_my N j)).1 = INF := hbb.2.mp q
    have hc : ∀ c, c < 4 → wi (g_cor J N j c) = -1 := fun c hc => by
      obtain ⟨⟨-, x1⟩, -, y1⟩ := g_cxy (c := c) hmi hj hc
      rw [cor c hc, best_lost hmi m1 m2 x1 y1 h1]
      decide
    unfold fcl fcl fcl fcl fcl
    rw [hc 0 (by decide), hc 1 (by decide), hc 2 (by decide), hc 3 (by decide)]
    decide
  · rw [if_neg q]
    have h1 : ¬ (g_best J N (LL J N) (nI j) (g_mx N j) (g_my N j)).1 = INF := fun w => q (hbb.2.mpr w)
    have hc : ∀ c, c < 4 → g_cor J N j c < INF := fun c hc => by
      obtain ⟨⟨-, x1⟩, -, y1⟩ := g_cxy (c := c) hmi hj hc
      have hle := g_least_INF J N (LL J N) (nI j) (-1) (2 * ((N 24 j).toNatClampNeg + c % 2 * (N 26 j).toNatClampNeg)) (2 * ((N 25 j).toNatClampNeg + c / 2 * (N 27 j).toNatClampNeg))
      have e := cor c hc
      have ne : ¬ g_cor J N j c = INF := fun w => h1 (best_lost hmi x1 y1 m1 m2 (by rw [← e]; exact w))
      unfold g_cor at ne ⊢
      omega
    have st : ∀ c, c < 4 → fcl J N j (c + 1) = nI (g_far J N j (c + 1)) := fun c => by
      induction c with
      | zero =>
        intro _
        have h0 := hc 0 (by decide)
        unfold fcl fcl g_far g_far wi
        rw [if_neg (by omega), Nat.zero_max]
        unfold i_max
        unfold INF at h0
        rw [if_pos]
        rw [i32_lt, nI_toInt (by omega)]
        show (-1 : Int) < _
        omega
      | succ c ih =>
        intro hcc
        have h0 := hc (c + 1) hcc
        have ih := ih (by omega)
        have hf := g_far_INF J N j (c + 1)
        rw [show fcl J N j (c + 1 + 1) = i_max (fcl J N j (c + 1)) (wi (g_cor J N j (c + 1))) from rfl, ih]
        unfold wi
        unfold INF at h0 hf
        rw [if_neg (by unfold INF; omega), n_max (by omega) (by omega)]
        rfl
    exact st 3 (by decide)


