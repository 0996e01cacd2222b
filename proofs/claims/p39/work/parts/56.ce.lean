/-! the class: places for pieces -/
def r_tos (Q : Nat → Nat → Option Nat) (O : zk_Hp) (o : Option va_E) (b r : Nat) : Bool := match Q 2 r with
  | some a => decide (¬ a = b) && m_tos o (O a)
  | none => false
def sp_X5_touchesOthers (E : zk_E) : zk_Sp zk_S := fun av σ sz P PX => match av with
  | [.ref a, .ref p, .ref b] => a = zk_ad E 1 ∧ ROK E σ.2.2.1 σ.2.2.2.1 ∧ E.1 + 28 ≤ p ∧ isP (σ.2.2.2.1 p) ∧ P (some (.int (zk_b (m_ex (r_tos σ.2.2.1 σ.2.2.2.1 (σ.2.2.2.1 p) b) 20)))) σ sz
  | _ => False
theorem spe_X5_touchesOthers (E : zk_E) (a : Nat) (p : Nat) (b : Nat) (σ : zk_S) (sz : Nat) (P : zk_P zk_S) (PX : zk_X zk_S) : sp_X5_touchesOthers E [.ref a, .ref p, .ref b] σ sz P PX = (a = zk_ad E 1 ∧ ROK E σ.2.2.1 σ.2.2.2.1 ∧ E.1 + 28 ≤ p ∧ isP (σ.2.2.2.1 p) ∧ P (some (.int (zk_b (m_ex (r_tos σ.2.2.1 σ.2.2.2.1 (σ.2.2.2.1 p) b) 20)))) σ sz) := propext Iff.rfl
def C_X5_touchesOthers (E : zk_E) : zk_Cl zk_S := zk_lka [(39, 2, 0, 0, zk_rv (zk_VT E) (fun ci => Nat.beq ci 3) (sp_X4_touchesSideOf E))]
theorem r_X5_touchesOthers (E : zk_E) (P : zk_P zk_S) (PX : zk_X zk_S) (K : Nat → zk_L → List Value → zk_W zk_S → Prop) : (∀ (n : Nat) (l1 l2 l3 l4 l5 l6 : Option Value) (y0 : Value) (r : List Value) (σ : zk_S) (sz k c : Nat), zk_run E (zk_VT E) M_X5_touchesOthers (C_X5_touchesOthers E) P PX K (n + 1) 0 [some y0, l1, l2, l3, l4, l5, l6] r (σ, sz, k, c) = (zk_isr y0 ∧ zk_run E (zk_VT E) M_X5_touchesOthers (C_X5_touchesOthers E) P PX K n 1 [some y0, l1, l2, l3, l4, l5, l6] (y0 :: r) (σ, sz, k, c))) ∧
  (∀ (n : Nat) (l0 l1 l2 l3 l4 l5 l6 : Option Value) (a : Nat) (r : List Value) (σ : zk_S) (sz k c : Nat), zk_run E (zk_VT E) M_X5_touchesOthers (C_X5_touchesOthers E) P PX K (n + 1) 1 [l0, l1, l2, l3, l4, l5, l6] (.ref a :: r) (σ, sz, k, c) = zk_fld (zk_view E σ a) [4] 0 (fun v => zk_run E (zk_VT E) M_X5_touchesOthers (C_X5_touchesOthers E) P PX K n 4 [l0, l1, l2, l3, l4, l5, l6] (v :: r) (σ, sz, k, c))) ∧
  (∀ (n : Nat) (l0 l1 l2 l3 l4 l5 l6 : Option Value) (x : Value) (r : List Value) (σ : zk_S) (sz k c : Nat), zk_run E (zk_VT E) M_X5_touchesOthers (C_X5_touchesOthers E) P PX K (n + 1) 4 [l0, l1, l2, l3, l4, l5, l6] (x :: r) (σ, sz, k, c) = (zk_isr x ∧ zk_run E (zk_VT E) M_X5_touchesOthers (C_X5_touchesOthers E) P PX K n 5 [l0, l1, zk_kl l2, some (x), l4, l5, l6] r (σ, sz, k, c))) ∧
  (∀ (n : Nat) (l0 l1 l2 l4 l5 l6 : Option Value) (y3 : Value) (r : List Value) (σ : zk_S) (sz k c : Nat), zk_run E (zk_VT E) M_X5_touchesOthers (C_X5_touchesOthers E) P PX K (n + 1) 5 [l0, l1, l2, some y3, l4, l5, l6] r (σ, sz, k, c) = (zk_isr y3 ∧ zk_run E (zk_VT E) M_X5_touchesOthers (C_X5_touchesOthers E) P PX K n 6 [l0, l1, l2, some y3, l4, l5, l6] (y3 :: r) (σ, sz, k, c))) ∧
  (∀ (n : Nat) (l0 l1 l2 l3 l4 l5 l6 : Option Value) (a : Nat) (r : List Value) (σ : zk_S) (sz k c : Nat), zk_run E (zk_VT E) M_X5_touchesOthers (C_X5_touchesOthers E) P PX K (n + 1) 6 [l0, l1, l2, l3, l4, l5, l6] (.ref a :: r) (σ, sz, k, c) = zk_lenq E (zk_view E σ a) (fun x => zk_run E (zk_VT E) M_X5_touchesOthers (C_X5_touchesOthers E) P PX K n 7 [l0, l1, l2, l3, l4, l5, l6] (.int x :: r) (σ, sz, k, c))) ∧
  (∀ (n : Nat) (l0 l1 l2 l3 l4 l5 l6 : Option Value) (x : Int32) (r : List Value) (σ : zk_S) (sz k c : Nat), zk_run E (zk_VT E) M_X5_touchesOthers (C_X5_touchesOthers E) P PX K (n + 1) 7 [l0, l1, l2, l3, l4, l5, l6] (.int x :: r) (σ, sz, k, c) = zk_run E (zk_VT E) M_X5_touchesOthers (C_X5_touchesOthers E) P PX K n 9 [l0, l1, l2, zk_kl l3, some (.int x), l5, l6] r (σ, sz, k, c)) ∧
  (∀ (n : Nat) (l0 l1 l2 l3 l4 l5 l6 : Option Value)  (r : List Value) (σ : zk_S) (sz k c : Nat), zk_run E (zk_VT E) M_X5_touchesOthers (C_X5_touchesOthers E) P PX K (n + 1) 9 [l0, l1, l2, l3, l4, l5, l6] r (σ, sz, k, c) = zk_run E (zk_VT E) M_X5_touchesOthers (C_X5_touchesOthers E) P PX K n 10 [l0, l1, l2, l3, l4, l5, l6] (.int (0) :: r) (σ, sz, k, c)) ∧
  (∀ (n : Nat) (l0 l1 l2 l3 l4 l5 l6 : Option Value) (x : Int32) (r : List Value) (σ : zk_S) (sz k c : Nat), zk_run E (zk_VT E) M_X5_touchesOthers (C_X5_touchesOthers E) P PX K (n + 1) 10 [l0, l1, l2, l3, l4, l5, l6] (.int x :: r) (σ, sz, k, c) = zk_run E (zk_VT E) M_X5_touchesOthers (C_X5_touchesOthers E) P PX K n 12 [l0, l1, l2, l3, zk_kl l4, some (.int x), l6] r (σ, sz, k, c)) ∧
  (∀ (n : Nat) (l0 l1 l2 l3 l4 l5 l6 : Option Value)  (r : List Value) (σ : zk_S) (sz k c : Nat), zk_run E (zk_VT E) M_X5_touchesOthers (C_X5_touchesOthers E) P PX K (n + 1) 12 [l0, l1, l2, l3, l4, l5, l6] r (σ, sz, k, c) = K 12 [l0, l1, l2, l3, l4, l5, l6] r (σ, sz, k, c)) ∧
  (∀ (n : Nat) (l0 l1 l2 l3 l5 l6 : Option Value) (y4 : Int32) (r : List Value) (σ : zk_S) (sz k c : Nat), zk_run E (zk_VT E) M_X5_touchesOthers (C_X5_touchesOthers E) P PX K (n + 1) 14 [l0, l1, l2, l3, some (.int y4), l5, l6] r (σ, sz, k, c) = zk_run E (zk_VT E) M_X5_touchesOthers (C_X5_touchesOthers E) P PX K n 16 [l0, l1, l2, l3, some (.int y4), l5, l6] (.int y4 :: r) (σ, sz, k, c)) ∧
  (∀ (n : Nat) (l0 l1 l2 l3 l4 l5 l6 : Option Value) (x y : Int32) (r : List Value) (σ : zk_S) (sz k c : Nat), zk_run E (zk_VT E) M_X5_touchesOthers (C_X5_touchesOthers E) P PX K (n + 1) 16 [l0, l1, l2, l3, l4, l5, l6] (.int y :: .int x :: r) (σ, sz, k, c) = ((y ≤ x → zk_run E (zk_VT E) M_X5_touchesOthers (C_X5_touchesOthers E) P PX K n 53 [l0, l1, l2, l3, l4, l5, l6] r (σ, sz, k, c)) ∧ (¬ (y ≤ x) → zk_run E (zk_VT E) M_X5_touchesOthers (C_X5_touchesOthers E) P PX K n 19 [l0, l1, l2, l3, l4, l5, l6] r (σ, sz, k, c)))) ∧
  (∀ (n : Nat) (l0 l1 l2 l4 l5 l6 : Option Value) (y3 : Value) (r : List Value) (σ : zk_S) (sz k c : Nat), zk_run E (zk_VT E) M_X5_touchesOthers (C_X5_touchesOthers E) P PX K (n + 1) 19 [l0, l1, l2, some y3, l4, l5, l6] r (σ, sz, k, c) = (zk_isr y3 ∧ zk_run E (zk_VT E) M_X5_touchesOthers (C_X5_touchesOthers E) P PX K n 20 [l0, l1, l2, some y3, l4, l5, l6] (y3 :: r) (σ, sz, k, c))) ∧
  (∀ (n : Nat) (l0 l1 l2 l3 l4 l6 : Option Value) (y5 : Int32) (r : List Value) (σ : zk_S) (sz k c : Nat), zk_run E (zk_VT E) M_X5_touchesOthers (C_X5_touchesOthers E) P PX K (n + 1) 20 [l0, l1, l2, l3, l4, some (.int y5), l6] r (σ, sz, k, c) = zk_run E (zk_VT E) M_X5_touchesOthers (C_X5_touchesOthers E) P PX K n 22 [l0, l1, l2, l3, l4, some (.int y5), l6] (.int y5 :: r) (σ, sz, k, c)) ∧
  (∀ (n : Nat) (l0 l1 l2 l3 l4 l5 l6 : Option Value) (a : Nat) (i : Int32) (r : List Value) (σ : zk_S) (sz k c : Nat), zk_run E (zk_VT E) M_X5_touchesOthers (C_X5_touchesOthers E) P PX K (n + 1) 22 [l0, l1, l2, l3, l4, l5, l6] (.int i :: .ref a :: r) (σ, sz, k, c) = zk_qld (zk_view E σ a) i [zk_ar E 3, zk_ar E 4, zk_ar E 5, zk_ar E 6, zk_ar E 7] (fun x => (x = none → zk_run E (zk_VT E) M_X5_touchesOthers (C_X5_touchesOthers E) P PX K n 23 [l0, l1, l2, l3, l4, l5, l6] (.null :: r) (σ, sz, k, c)) ∧ ∀ b, x = some b → zk_run E (zk_VT E) M_X5_touchesOthers (C_X5_touchesOthers E) P PX K n 23 [l0, l1, l2, l3, l4, l5, l6] (.ref b :: r) (σ, sz, k, c))) ∧
  (∀ (n : Nat) (l0 l1 l2 l3 l4 l5 l6 : Option Value) (x : Value) (r : List Value) (σ : zk_S) (sz k c : Nat), zk_run E (zk_VT E) M_X5_touchesOthers (C_X5_touchesOthers E) P PX K (n + 1) 23 [l0, l1, l2, l3, l4, l5, l6] (x :: r) (σ, sz, k, c) = (zk_isr x ∧ zk_run E (zk_VT E) M_X5_touchesOthers (C_X5_touchesOthers E) P PX K n 25 [l0, l1, l2, l3, l4, zk_kl l5, some (x)] r (σ, sz, k, c))) ∧
  (∀ (n : Nat) (l0 l1 l2 l3 l4 l5 : Option Value) (y6 : Value) (r : List Value) (σ : zk_S) (sz k c : Nat), zk_run E (zk_VT E) M_X5_touchesOthers (C_X5_touchesOthers E) P PX K (n + 1) 25 [l0, l1, l2, l3, l4, l5, some y6] r (σ, sz, k, c) = (zk_isr y6 ∧ zk_run E (zk_VT E) M_X5_touchesOthers (C_X5_touchesOthers E) P PX K n 27 [l0, l1, l2, l3, l4, l5, some y6] (y6 :: r) (σ, sz, k, c))) ∧
  (∀ (n : Nat) (l0 l1 l2 l3 l4 l5 l6 : Option Value) (v : Value) (r : List Value) (σ : zk_S) (sz k c : Nat), zk_run E (zk_VT E) M_X5_touchesOthers (C_X5_touchesOthers E) P PX K (n + 1) 27 [l0, l1, l2, l3, l4, l5, l6] (v :: r) (σ, sz, k, c) = (zk_isr v ∧ (v = .null → zk_run E (zk_VT E) M_X5_touchesOthers (C_X5_touchesOthers E) P PX K n 47 [l0, l1, l2, l3, l4, l5, l6] r (σ, sz, k, c)) ∧ (¬ (v = .null) → zk_run E (zk_VT E) M_X5_touchesOthers (C_X5_touchesOthers E) P PX K n 30 [l0, l1, l2, l3, l4, l5, l6] r (σ, sz, k, c)))) ∧
  (∀ (n : Nat) (l0 l1 l2 l3 l4 l5 : Option Value) (y6 : Value) (r : List Value) (σ : zk_S) (sz k c : Nat), zk_run E (zk_VT E) M_X5_touchesOthers (C_X5_touchesOthers E) P PX K (n + 1) 30 [l0, l1, l2, l3, l4, l5, some y6] r (σ, sz, k, c) = (zk_isr y6 ∧ zk_run E (zk_VT E) M_X5_touchesOthers (C_X5_touchesOthers E) P PX K n 32 [l0, l1, l2, l3, l4, l5, some y6] (y6 :: r) (σ, sz, k, c))) ∧
  (∀ (n : Nat) (l0 l1 l3 l4 l5 l6 : Option Value) (y2 : Value) (r : List Value) (σ : zk_S) (sz k c : Nat), zk_run E (zk_VT E) M_X5_touchesOthers (C_X5_touchesOthers E) P PX K (n + 1) 32 [l0, l1, some y2, l3, l4, l5, l6] r (σ, sz, k, c) = (zk_isr y2 ∧ zk_run E (zk_VT E) M_X5_touchesOthers (C_X5_touchesOthers E) P PX K n 33 [l0, l1, some y2, l3, l4, l5, l6] (y2 :: r) (σ, sz, k, c))) ∧
  (∀ (n : Nat) (l0 l1 l2 l3 l4 l5 l6 : Option Value) (x y : Value) (r : List Value) (σ : zk_S) (sz k c : Nat), zk_run E (zk_VT E) M_X5_touchesOthers (C_X5_touchesOthers E) P PX K (n + 1) 33 [l0, l1, l2, l3, l4, l5, l6] (y :: x :: r) (σ, sz, k, c) = (zk_isr x ∧ zk_isr y ∧ (x = y → zk_run E (zk_VT E) M_X5_touchesOthers (C_X5_touchesOthers E) P PX K n 47 [l0, l1, l2, l3, l4, l5, l6] r (σ, sz, k, c)) ∧ (¬ (x = y) → zk_run E (zk_VT E) M_X5_touchesOthers (C_X5_touchesOthers E) P PX K n 36 [l0, l1, l2, l3, l4, l5, l6] r (σ, sz, k, c)))) ∧
  (∀ (n : Nat) (l0 l2 l3 l4 l5 l6 : Option Value) (y1 : Value) (r : List Value) (σ : zk_S) (sz k c : Nat), zk_run E (zk_VT E) M_X5_touchesOthers (C_X5_touchesOthers E) P PX K (n + 1) 36 [l0, some y1, l2, l3, l4, l5, l6] r (σ, sz, k, c) = (zk_isr y1 ∧ zk_run E (zk_VT E) M_X5_touchesOthers (C_X5_touchesOthers E) P PX K n 37 [l0, some y1, l2, l3, l4, l5, l6] (y1 :: r) (σ, sz, k, c))) ∧
  (∀ (n : Nat) (l0 l1 l2 l3 l4 l5 : Option Value) (y6 : Value) (r : List Value) (σ : zk_S) (sz k c : Nat), zk_run E (zk_VT E) M_X5_touchesOthers (C_X5_touchesOthers E) P PX K (n + 1) 37 [l0, l1, l2, l3, l4, l5, some y6] r (σ, sz, k, c) = (zk_isr y6 ∧ zk_run E (zk_VT E) M_X5_touchesOthers (C_X5_touchesOthers E) P PX K n 39 [l0, l1, l2, l3, l4, l5, some y6] (y6 :: r) (σ, sz, k, c))) ∧
  (∀ (n : Nat) (l0 l1 l2 l3 l4 l5 l6 : Option Value) (v0 : Value) (v1 : Value)  (σ : zk_S) (sz k c : Nat), zk_run E (zk_VT E) M_X5_touchesOthers (C_X5_touchesOthers E) P PX K (n + 1) 39 [l0, l1, l2, l3, l4, l5, l6] [v0, v1] (σ, sz, k, c) = (k + 0 ≤ 0 ∧ c + 0 ≤ 0 ∧ (zk_rv (zk_VT E) (fun ci => Nat.beq ci 3) (sp_X4_touchesSideOf E)) [v1, v0] σ sz (fun v s2 z2 => zk_run E (zk_VT E) M_X5_touchesOthers (C_X5_touchesOthers E) P PX K n 42 [l0, l1, l2, l3, l4, l5, l6] (zk_psh v []) (s2, z2, k + 0, c + 0)) (fun X s2 z2 => PX X s2 z2))) ∧
  (∀ (n : Nat) (l0 l1 l2 l3 l4 l5 l6 : Option Value) (x : Int32) (r : List Value) (σ : zk_S) (sz k c : Nat), zk_run E (zk_VT E) M_X5_touchesOthers (C_X5_touchesOthers E) P PX K (n + 1) 42 [l0, l1, l2, l3, l4, l5, l6] (.int x :: r) (σ, sz, k, c) = ((x = 0 → zk_run E (zk_VT E) M_X5_touchesOthers (C_X5_touchesOthers E) P PX K n 47 [l0, l1, l2, l3, l4, l5, l6] r (σ, sz, k, c)) ∧ (¬ (x = 0) → zk_run E (zk_VT E) M_X5_touchesOthers (C_X5_touchesOthers E) P PX K n 45 [l0, l1, l2, l3, l4, l5, l6] r (σ, sz, k, c)))) ∧
  (∀ (n : Nat) (l0 l1 l2 l3 l4 l5 l6 : Option Value)  (r : List Value) (σ : zk_S) (sz k c : Nat), zk_run E (zk_VT E) M_X5_touchesOthers (C_X5_touchesOthers E) P PX K (n + 1) 45 [l0, l1, l2, l3, l4, l5, l6] r (σ, sz, k, c) = zk_run E (zk_VT E) M_X5_touchesOthers (C_X5_touchesOthers E) P PX K n 46 [l0, l1, l2, l3, l4, l5, l6] (.int (1) :: r) (σ, sz, k, c)) ∧
  (∀ (n : Nat) (l0 l1 l2 l3 l4 l5 l6 : Option Value) (x : Int32)  (σ : zk_S) (sz k c : Nat), zk_run E (zk_VT E) M_X5_touchesOthers (C_X5_touchesOthers E) P PX K (n + 1) 46 [l0, l1, l2, l3, l4, l5, l6] [.int x] (σ, sz, k, c) = (zk_nok (some (.boolean)) x ∧ P (some (.int x)) σ sz ∧ k ≤ 0 ∧ c ≤ 0)) ∧
  (∀ (n : Nat) (l0 l1 l2 l3 l4 l6 : Option Value) (y5 : Int32) (r : List Value) (σ : zk_S) (sz k c : Nat), zk_run E (zk_VT E) M_X5_touchesOthers (C_X5_touchesOthers E) P PX K (n + 1) 47 [l0, l1, l2, l3, l4, some (.int y5), l6] r (σ, sz, k, c) = zk_run E (zk_VT E) M_X5_touchesOthers (C_X5_touchesOthers E) P PX K n 50 [l0, l1, l2, l3, zk_kl l4, some (.int (y5 + 1)), l6] r (σ, sz, k, c)) ∧
  (∀ (n : Nat) (l0 l1 l2 l3 l4 l5 l6 : Option Value)  (r : List Value) (σ : zk_S) (sz k c : Nat), zk_run E (zk_VT E) M_X5_touchesOthers (C_X5_touchesOthers E) P PX K (n + 1) 50 [l0, l1, l2, l3, l4, l5, l6] r (σ, sz, k, c) = zk_run E (zk_VT E) M_X5_touchesOthers (C_X5_touchesOthers E) P PX K n 12 [l0, l1, l2, l3, l4, l5, l6] r (σ, sz, k, c)) ∧
  (∀ (n : Nat) (l0 l1 l2 l3 l4 l5 l6 : Option Value)  (r : List Value) (σ : zk_S) (sz k c : Nat), zk_run E (zk_VT E) M_X5_touchesOthers (C_X5_touchesOthers E) P PX K (n + 1) 53 [l0, l1, l2, l3, l4, l5, l6] r (σ, sz, k, c) = zk_run E (zk_VT E) M_X5_touchesOthers (C_X5_touchesOthers E) P PX K n 54 [l0, l1, l2, l3, l4, l5, l6] (.int (0) :: r) (σ, sz, k, c)) ∧
  (∀ (n : Nat) (l0 l1 l2 l3 l4 l5 l6 : Option Value) (x : Int32)  (σ : zk_S) (sz k c : Nat), zk_run E (zk_VT E) M_X5_touchesOthers (C_X5_touchesOthers E) P PX K (n + 1) 54 [l0, l1, l2, l3, l4, l5, l6] [.int x] (σ, sz, k, c) = (zk_nok (some (.boolean)) x ∧ P (some (.int x)) σ sz ∧ k ≤ 0 ∧ c ≤ 0)) ∧
  (∀ (n : Nat) (l0 l1 l2 l3 l4 l5 l6 : Option Value) (r : List Value) (w : zk_W zk_S), zk_go E (zk_VT E) M_X5_touchesOthers (C_X5_touchesOthers E) P PX K n 0 [l0, l1, l2, l3, l4, l5, l6] r w = zk_run E (zk_VT E) M_X5_touchesOthers (C_X5_touchesOthers E) P PX K (n + 1) 0 [l0, l1, l2, l3, l4, l5, l6] r w) ∧
  (∀ (n : Nat) (l0 l1 l2 l3 l4 l6 : Option Value) (y5 : Int32) (r : List Value) (σ : zk_S) (sz k c : Nat), zk_go E (zk_VT E) M_X5_touchesOthers (C_X5_touchesOthers E) P PX K n 12 [l0, l1, l2, l3, l4, some (.int y5), l6] r (σ, sz, k, c) = zk_run E (zk_VT E) M_X5_touchesOthers (C_X5_touchesOthers E) P PX K n 14 [l0, l1, l2, l3, l4, some (.int y5), l6] (.int y5 :: r) (σ, sz, k, c)) := ⟨by intros; rfl, by intros; rfl, by intros; rfl, by intros; rfl, by intros; rfl, by intros; rfl, by intros; rfl, by intros; rfl, by intros; rfl, by intros; rfl, by intros; rfl, by intros; rfl, by intros; rfl, by intros; rfl, by intros; rfl, by intros; rfl, by intros; rfl, by intros; rfl, by intros; rfl, by intros; rfl, by intros; rfl, by intros; rfl, by intros; rfl, by intros; rfl, by intros; rfl, by intros; rfl, by intros; rfl, by intros; rfl, by intros; rfl, by intros; rfl, by intros; rfl, by intros; rfl⟩
theorem vc_X5_touchesOthers (E : zk_E) : zk_VC E (zk_VT E) M_X5_touchesOthers (C_X5_touchesOthers E) 7 (sp_X5_touchesOthers E) := by
  intro av σ sz P PX h
  obtain ⟨J, N, Q, O, U⟩ := σ
  unfold sp_X5_touchesOthers at h
  split at h
  case h_2 => exact h.elim
  rename_i a0 p b
  obtain ⟨rfl, h⟩ := h
  refine ⟨Nat.le_of_ble_eq_true rfl, fun G hG => ?_⟩
  change G 0 [some (.ref (zk_ad E 1)), some (.ref p), some (.ref b), none, none, none, none] [] ((J, N, Q, O, U), sz, 0, 0)
  try dsimp only at h
  obtain ⟨hr, hp, hP, h⟩ := h
  obtain ⟨p0, p1, p2, p3, p4, hOp⟩ := id hP
  have ip : ∀ k, zk_is (O p) k = (k 3 = true) := fun k => by rw [hOp]; rfl
  have c40 : Int32.ofNat 20 = nI 20 := rfl
  have loop : ∀ m i l4, i + m = 20 → m_ex (r_tos Q O (O p) b) i = false → G 12 [some (.ref (zk_ad E 1)), some (.ref p), some (.ref b), some (.ref (zk_ad E 2)), some (.int (nI 20)), some (.int (nI i)), l4] [] ((J, N, Q, O, U), sz, 0, 0) := by
    intro m
    induction m with
    | zero =>
      intro i l4 hi hn
      have c1 : nI 20 ≤ nI i := nI_le (by omega) (by omega)
      have ei : i = 20 := by omega
      subst ei
      rw [hn] at h
      (refine hG 900 _ _ _ _ ?_; simp only [r_X5_touchesOthers, c1])
      exact h
    | succ m ih =>
      intro i l4 hi hn
      have c1 : ¬ nI 20 ≤ nI i := nI_ge (by omega) (by omega)
      have ih2 := fun (w : r_tos Q O (O p) b i = false) l4 => ih (i + 1) l4 (by omega) (by rw [m_ex, hn, w]; rfl)
      have hw : r_tos Q O (O p) b i = true → P (some (.int 1)) (J, N, Q, O, U) sz := fun w => by
        rw [m_ex_true w (by omega)] at h
        exact h
      have hin : vp_in (nI i) 20 := n_in (by omega) (by decide)
      have hcl : (nI i).toNatClampNeg = i := n_cl (by omega)
      cases q : Q 2 i with
      | none =>
        have ih3 := ih2 (by unfold r_tos; rw [q])
        (refine hG 900 _ _ _ _ ?_; simp only [r_X5_touchesOthers, c1, hin, hcl, q, n_succ])
        exact ih3 _
      | some c =>
        obtain ⟨hc, hC⟩ := hr i (by omega) c q
        have e0 : r_tos Q O (O p) b i = (decide (¬ c = b) && m_tos (O p) (O c)) := by unfold r_tos; rw [q]
        rw [e0] at ih2 hw
        by_cases z1 : c = b
        · have h3 := ih2 (by rw [decide_eq_false (not_not_intro z1), Bool.false_and])
          (refine hG 900 _ _ _ _ ?_; simp only [r_X5_touchesOthers, c1, hin, hcl, q, z1, n_succ])
          exact h3 _
        · have z2 : (Value.ref c = Value.ref b) = False := by simp [z1]
          cases z3 : m_tos (O p) (O c) with
          | true =>
            have h3 := hw (by rw [decide_eq_true z1, z3]; rfl)
            (refine hG 900 _ _ _ _ ?_; simp only [r_X5_touchesOthers, c1, hin, hcl, q, z2, zk_vd hp, ip, spe_X4_touchesSideOf, hp, hP, hc, hC, z3, zk_b0, Bool.true_eq_false, n_succ])
            exact h3
          | false =>
            have h3 := ih2 (by rw [z3, Bool.and_false])
            (refine hG 900 _ _ _ _ ?_; simp only [r_X5_touchesOthers, c1, hin, hcl, q, z2, zk_vd hp, ip, spe_X4_touchesSideOf, hp, hP, hc, hC, z3, zk_b0, n_succ])
            exact h3 _
  have l0 := loop 20 0 none (by omega) rfl
  (refine hG 900 _ _ _ _ ?_; simp only [r_X5_touchesOthers, c40])
  exact l0
theorem ct_X5_touchesOthers {l : Launch} (hl : l.stackTraces = false) (E : zk_E) : zk_C l E (zk_VT E) yX5_touchesOthers cX5_touchesOthers 7 (some (.boolean)) rm_X5_touchesOthers (sp_X5_touchesOthers E) := by
  refine zk_meth (M := M_X5_touchesOthers) (C := C_X5_touchesOthers E) hl (by decide +kernel) rfl (fun _ _ => rfl) (zk_VT_ok E) MO_X5_touchesOthers TO_X5_touchesOthers THo_X5_touchesOthers ?_ (vc_X5_touchesOthers E)
  exact fun p e s m args below meth c X pc n mc ms sp2 h => by
    have h2 := zk_lka_mem h
    simp only [List.mem_cons, List.not_mem_nil, or_false, Prod.mk.injEq] at h2
    rcases h2 with ⟨rfl, rfl, rfl, rfl, rfl⟩
    exact zk_coV (idx := 96) X (ct_X4_touchesSideOf hl E) (List.forall_mem_cons.mpr ⟨zk_wi 817 (by decide +kernel) rfl, List.forall_mem_cons.mpr ⟨zk_wi 818 (by decide +kernel) rfl, List.forall_mem_cons.mpr ⟨zk_wi 819 (by decide +kernel) rfl, List.forall_mem_cons.mpr ⟨zk_wi 15 (by decide +kernel) rfl, List.forall_mem_cons.mpr ⟨zk_wi 820 (by decide +kernel) rfl, fun _ h => absurd h List.not_mem_nil⟩⟩⟩⟩⟩) (fun ci h => by
      have h := Nat.eq_of_beq_eq_true h
      subst h
      exact ⟨_, _, rfl⟩) (by decide +kernel) ⟨by decide, by decide, by decide +kernel⟩ ⟨by decide, by decide⟩
def d_sh (Q : Nat → Nat → Option Nat) (O : zk_Hp) (o : Option va_E) (d : Nat) : Bool := match Q 3 d with
  | some a => m_shw (fO O (fR (O a) 7)) o
  | none => false
def w_sh (Q : Nat → Nat → Option Nat) (O : zk_Hp) (o : Option va_E) (d : Nat) : Bool := match Q 4 d with
  | some a => m_shw (fO O (fR (O a) 1)) o
  | none => false
def sp_X5_isFree (E : zk_E) : zk_Sp zk_S := fun av σ sz P PX => match av with
  | [.ref a, .ref p] => a = zk_ad E 1 ∧ DOK E σ.2.2.1 σ.2.2.2.1 ∧ WOK E σ.2.2.1 σ.2.2.2.1 ∧ E.1 + 28 ≤ p ∧ isP (σ.2.2.2.1 p) ∧ P (some (.int (zk_b (!m_ex (d_sh σ.2.2.1 σ.2.2.2.1 (σ.2.2.2.1 p)) 40 && !m_ex (w_sh σ.2.2.1 σ.2.2.2.1 (σ.2.2.2.1 p)) 40)))) σ sz
  | _ => False
theorem spe_X5_isFree (E : zk_E) (a : Nat) (p : Nat) (σ : zk_S) (sz : Nat) (P : zk_P zk_S) (PX : zk_X zk_S) : sp_X5_isFree E [.ref a, .ref p] σ sz P PX = (a = zk_ad E 1 ∧ DOK E σ.2.2.1 σ.2.2.2.1 ∧ WOK E σ.2.2.1 σ.2.2.2.1 ∧ E.1 + 28 ≤ p ∧ isP (σ.2.2.2.1 p) ∧ P (some (.int (zk_b (!m_ex (d_sh σ.2.2.1 σ.2.2.2.1 (σ.2.2.2.1 p)) 40 && !m_ex (w_sh σ.2.2.1 σ.2.2.2.1 (σ.2.2.2.1 p)) 40)))) σ sz) := propext Iff.rfl
def C_X5_isFree (E : zk_E) : zk_Cl zk_S := zk_lka [(34, 2, 0, 0, zk_rv (zk_VT E) (fun ci => Nat.beq ci 3) (sp_X4_sharesWith E)), (82, 2, 0, 0, zk_rv (zk_VT E) (fun ci => Nat.beq ci 3) (sp_X4_sharesWith E))]
theorem r_X5_isFree (E : zk_E) (P : zk_P zk_S) (PX : zk_X zk_S) (K : Nat → zk_L → List Value → zk_W zk_S → Prop) : (∀ (n : Nat) (l1 l2 l3 l4 l5 : Option Value) (y0 : Value) (r : List Value) (σ : zk_S) (sz k c : Nat), zk_run E (zk_VT E) M_X5_isFree (C_X5_isFree E) P PX K (n + 1) 0 [some y0, l1, l2, l3, l4, l5] r (σ, sz, k, c) = (zk_isr y0 ∧ zk_run E (zk_VT E) M_X5_isFree (C_X5_isFree E) P PX K n 1 [some y0, l1, l2, l3, l4, l5] (y0 :: r) (σ, sz, k, c))) ∧
  (∀ (n : Nat) (l0 l1 l2 l3 l4 l5 : Option Value) (a : Nat) (r : List Value) (σ : zk_S) (sz k c : Nat), zk_run E (zk_VT E) M_X5_isFree (C_X5_isFree E) P PX K (n + 1) 1 [l0, l1, l2, l3, l4, l5] (.ref a :: r) (σ, sz, k, c) = zk_fld (zk_view E σ a) [4] 1 (fun v => zk_run E (zk_VT E) M_X5_isFree (C_X5_isFree E) P PX K n 4 [l0, l1, l2, l3, l4, l5] (v :: r) (σ, sz, k, c))) ∧
  (∀ (n : Nat) (l0 l1 l2 l3 l4 l5 : Option Value) (x : Value) (r : List Value) (σ : zk_S) (sz k c : Nat), zk_run E (zk_VT E) M_X5_isFree (C_X5_isFree E) P PX K (n + 1) 4 [l0, l1, l2, l3, l4, l5] (x :: r) (σ, sz, k, c) = (zk_isr x ∧ zk_run E (zk_VT E) M_X5_isFree (C_X5_isFree E) P PX K n 5 [l0, zk_kl l1, some (x), l3, l4, l5] r (σ, sz, k, c))) ∧
  (∀ (n : Nat) (l0 l1 l3 l4 l5 : Option Value) (y2 : Value) (r : List Value) (σ : zk_S) (sz k c : Nat), zk_run E (zk_VT E) M_X5_isFree (C_X5_isFree E) P PX K (n + 1) 5 [l0, l1, some y2, l3, l4, l5] r (σ, sz, k, c) = (zk_isr y2 ∧ zk_run E (zk_VT E) M_X5_isFree (C_X5_isFree E) P PX K n 6 [l0, l1, some y2, l3, l4, l5] (y2 :: r) (σ, sz, k, c))) ∧
  (∀ (n : Nat) (l0 l1 l2 l3 l4 l5 : Option Value) (a : Nat) (r : List Value) (σ : zk_S) (sz k c : Nat), zk_run E (zk_VT E) M_X5_isFree (C_X5_isFree E) P PX K (n + 1) 6 [l0, l1, l2, l3, l4, l5] (.ref a :: r) (σ, sz, k, c) = zk_lenq E (zk_view E σ a) (fun x => zk_run E (zk_VT E) M_X5_isFree (C_X5_isFree E) P PX K n 7 [l0, l1, l2, l3, l4, l5] (.int x :: r) (σ, sz, k, c))) ∧
  (∀ (n : Nat) (l0 l1 l2 l3 l4 l5 : Option Value) (x : Int32) (r : List Value) (σ : zk_S) (sz k c : Nat), zk_run E (zk_VT E) M_X5_isFree (C_X5_isFree E) P PX K (n + 1) 7 [l0, l1, l2, l3, l4, l5] (.int x :: r) (σ, sz, k, c) = zk_run E (zk_VT E) M_X5_isFree (C_X5_isFree E) P PX K n 8 [l0, l1, zk_kl l2, some (.int x), l4, l5] r (σ, sz, k, c)) ∧
  (∀ (n : Nat) (l0 l1 l2 l3 l4 l5 : Option Value)  (r : List Value) (σ : zk_S) (sz k c : Nat), zk_run E (zk_VT E) M_X5_isFree (C_X5_isFree E) P PX K (n + 1) 8 [l0, l1, l2, l3, l4, l5] r (σ, sz, k, c) = zk_run E (zk_VT E) M_X5_isFree (C_X5_isFree E) P PX K n 9 [l0, l1, l2, l3, l4, l5] (.int (0) :: r) (σ, sz, k, c)) ∧
  (∀ (n : Nat) (l0 l1 l2 l3 l4 l5 : Option Value) (x : Int32) (r : List Value) (σ : zk_S) (sz k c : Nat), zk_run E (zk_VT E) M_X5_isFree (C_X5_isFree E) P PX K (n + 1) 9 [l0, l1, l2, l3, l4, l5] (.int x :: r) (σ, sz, k, c) = zk_run E (zk_VT E) M_X5_isFree (C_X5_isFree E) P PX K n 11 [l0, l1, l2, zk_kl l3, some (.int x), l5] r (σ, sz, k, c)) ∧
  (∀ (n : Nat) (l0 l1 l2 l3 l4 l5 : Option Value)  (r : List Value) (σ : zk_S) (sz k c : Nat), zk_run E (zk_VT E) M_X5_isFree (C_X5_isFree E) P PX K (n + 1) 11 [l0, l1, l2, l3, l4, l5] r (σ, sz, k, c) = K 11 [l0, l1, l2, l3, l4, l5] r (σ, sz, k, c)) ∧
  (∀ (n : Nat) (l0 l1 l2 l4 l5 : Option Value) (y3 : Int32) (r : List Value) (σ : zk_S) (sz k c : Nat), zk_run E (zk_VT E) M_X5_isFree (C_X5_isFree E) P PX K (n + 1) 13 [l0, l1, l2, some (.int y3), l4, l5] r (σ, sz, k, c) = zk_run E (zk_VT E) M_X5_isFree (C_X5_isFree E) P PX K n 14 [l0, l1, l2, some (.int y3), l4, l5] (.int y3 :: r) (σ, sz, k, c)) ∧
  (∀ (n : Nat) (l0 l1 l2 l3 l4 l5 : Option Value) (x y : Int32) (r : List Value) (σ : zk_S) (sz k c : Nat), zk_run E (zk_VT E) M_X5_isFree (C_X5_isFree E) P PX K (n + 1) 14 [l0, l1, l2, l3, l4, l5] (.int y :: .int x :: r) (σ, sz, k, c) = ((y ≤ x → zk_run E (zk_VT E) M_X5_isFree (C_X5_isFree E) P PX K n 48 [l0, l1, l2, l3, l4, l5] r (σ, sz, k, c)) ∧ (¬ (y ≤ x) → zk_run E (zk_VT E) M_X5_isFree (C_X5_isFree E) P PX K n 17 [l0, l1, l2, l3, l4, l5] r (σ, sz, k, c)))) ∧
  (∀ (n : Nat) (l0 l1 l3 l4 l5 : Option Value) (y2 : Value) (r : List Value) (σ : zk_S) (sz k c : Nat), zk_run E (zk_VT E) M_X5_isFree (C_X5_isFree E) P PX K (n + 1) 17 [l0, l1, some y2, l3, l4, l5] r (σ, sz, k, c) = (zk_isr y2 ∧ zk_run E (zk_VT E) M_X5_isFree (C_X5_isFree E) P PX K n 18 [l0, l1, some y2, l3, l4, l5] (y2 :: r) (σ, sz, k, c))) ∧
  (∀ (n : Nat) (l0 l1 l2 l3 l5 : Option Value) (y4 : Int32) (r : List Value) (σ : zk_S) (sz k c : Nat), zk_run E (zk_VT E) M_X5_isFree (C_X5_isFree E) P PX K (n + 1) 18 [l0, l1, l2, l3, some (.int y4), l5] r (σ, sz, k, c) = zk_run E (zk_VT E) M_X5_isFree (C_X5_isFree E) P PX K n 20 [l0, l1, l2, l3, some (.int y4), l5] (.int y4 :: r) (σ, sz, k, c)) ∧
  (∀ (n : Nat) (l0 l1 l2 l3 l4 l5 : Option Value) (a : Nat) (i : Int32) (r : List Value) (σ : zk_S) (sz k c : Nat), zk_run E (zk_VT E) M_X5_isFree (C_X5_isFree E) P PX K (n + 1) 20 [l0, l1, l2, l3, l4, l5] (.int i :: .ref a :: r) (σ, sz, k, c) = zk_qld (zk_view E σ a) i [zk_ar E 3, zk_ar E 4, zk_ar E 5, zk_ar E 6, zk_ar E 7] (fun x => (x = none → zk_run E (zk_VT E) M_X5_isFree (C_X5_isFree E) P PX K n 21 [l0, l1, l2, l3, l4, l5] (.null :: r) (σ, sz, k, c)) ∧ ∀ b, x = some b → zk_run E (zk_VT E) M_X5_isFree (C_X5_isFree E) P PX K n 21 [l0, l1, l2, l3, l4, l5] (.ref b :: r) (σ, sz, k, c))) ∧
  (∀ (n : Nat) (l0 l1 l2 l3 l4 l5 : Option Value) (x : Value) (r : List Value) (σ : zk_S) (sz k c : Nat), zk_run E (zk_VT E) M_X5_isFree (C_X5_isFree E) P PX K (n + 1) 21 [l0, l1, l2, l3, l4, l5] (x :: r) (σ, sz, k, c) = (zk_isr x ∧ zk_run E (zk_VT E) M_X5_isFree (C_X5_isFree E) P PX K n 23 [l0, l1, l2, l3, zk_kl l4, some (x)] r (σ, sz, k, c))) ∧
  (∀ (n : Nat) (l0 l1 l2 l3 l4 : Option Value) (y5 : Value) (r : List Value) (σ : zk_S) (sz k c : Nat), zk_run E (zk_VT E) M_X5_isFree (C_X5_isFree E) P PX K (n + 1) 23 [l0, l1, l2, l3, l4, some y5] r (σ, sz, k, c) = (zk_isr y5 ∧ zk_run E (zk_VT E) M_X5_isFree (C_X5_isFree E) P PX K n 25 [l0, l1, l2, l3, l4, some y5] (y5 :: r) (σ, sz, k, c))) ∧
  (∀ (n : Nat) (l0 l1 l2 l3 l4 l5 : Option Value) (v : Value) (r : List Value) (σ : zk_S) (sz k c : Nat), zk_run E (zk_VT E) M_X5_isFree (C_X5_isFree E) P PX K (n + 1) 25 [l0, l1, l2, l3, l4, l5] (v :: r) (σ, sz, k, c) = (zk_isr v ∧ (v = .null → zk_run E (zk_VT E) M_X5_isFree (C_X5_isFree E) P PX K n 42 [l0, l1, l2, l3, l4, l5] r (σ, sz, k, c)) ∧ (¬ (v = .null) → zk_run E (zk_VT E) M_X5_isFree (C_X5_isFree E) P PX K n 28 [l0, l1, l2, l3, l4, l5] r (σ, sz, k, c)))) ∧
  (∀ (n : Nat) (l0 l1 l2 l3 l4 : Option Value) (y5 : Value) (r : List Value) (σ : zk_S) (sz k c : Nat), zk_run E (zk_VT E) M_X5_isFree (C_X5_isFree E) P PX K (n + 1) 28 [l0, l1, l2, l3, l4, some y5] r (σ, sz, k, c) = (zk_isr y5 ∧ zk_run E (zk_VT E) M_X5_isFree (C_X5_isFree E) P PX K n 30 [l0, l1, l2, l3, l4, some y5] (y5 :: r) (σ, sz, k, c))) ∧
  (∀ (n : Nat) (l0 l1 l2 l3 l4 l5 : Option Value) (a : Nat) (r : List Value) (σ : zk_S) (sz k c : Nat), zk_run E (zk_VT E) M_X5_isFree (C_X5_isFree E) P PX K (n + 1) 30 [l0, l1, l2, l3, l4, l5] (.ref a :: r) (σ, sz, k, c) = zk_fld (zk_view E σ a) [1] 7 (fun v => zk_run E (zk_VT E) M_X5_isFree (C_X5_isFree E) P PX K n 33 [l0, l1, l2, l3, l4, l5] (v :: r) (σ, sz, k, c))) ∧
  (∀ (n : Nat) (l0 l2 l3 l4 l5 : Option Value) (y1 : Value) (r : List Value) (σ : zk_S) (sz k c : Nat), zk_run E (zk_VT E) M_X5_isFree (C_X5_isFree E) P PX K (n + 1) 33 [l0, some y1, l2, l3, l4, l5] r (σ, sz, k, c) = (zk_isr y1 ∧ zk_run E (zk_VT E) M_X5_isFree (C_X5_isFree E) P PX K n 34 [l0, some y1, l2, l3, l4, l5] (y1 :: r) (σ, sz, k, c))) ∧
  (∀ (n : Nat) (l0 l1 l2 l3 l4 l5 : Option Value) (v0 : Value) (v1 : Value)  (σ : zk_S) (sz k c : Nat), zk_run E (zk_VT E) M_X5_isFree (C_X5_isFree E) P PX K (n + 1) 34 [l0, l1, l2, l3, l4, l5] [v0, v1] (σ, sz, k, c) = (k + 0 ≤ 0 ∧ c + 0 ≤ 0 ∧ (zk_rv (zk_VT E) (fun ci => Nat.beq ci 3) (sp_X4_sharesWith E)) [v1, v0] σ sz (fun v s2 z2 => zk_run E (zk_VT E) M_X5_isFree (C_X5_isFree E) P PX K n 37 [l0, l1, l2, l3, l4, l5] (zk_psh v []) (s2, z2, k + 0, c + 0)) (fun X s2 z2 => PX X s2 z2))) ∧
  (∀ (n : Nat) (l0 l1 l2 l3 l4 l5 : Option Value) (x : Int32) (r : List Value) (σ : zk_S) (sz k c : Nat), zk_run E (zk_VT E) M_X5_isFree (C_X5_isFree E) P PX K (n + 1) 37 [l0, l1, l2, l3, l4, l5] (.int x :: r) (σ, sz, k, c) = ((x = 0 → zk_run E (zk_VT E) M_X5_isFree (C_X5_isFree E) P PX K n 42 [l0, l1, l2, l3, l4, l5] r (σ, sz, k, c)) ∧ (¬ (x = 0) → zk_run E (zk_VT E) M_X5_isFree (C_X5_isFree E) P PX K n 40 [l0, l1, l2, l3, l4, l5] r (σ, sz, k, c)))) ∧
  (∀ (n : Nat) (l0 l1 l2 l3 l4 l5 : Option Value)  (r : List Value) (σ : zk_S) (sz k c : Nat), zk_run E (zk_VT E) M_X5_isFree (C_X5_isFree E) P PX K (n + 1) 40 [l0, l1, l2, l3, l4, l5] r (σ, sz, k, c) = zk_run E (zk_VT E) M_X5_isFree (C_X5_isFree E) P PX K n 41 [l0, l1, l2, l3, l4, l5] (.int (0) :: r) (σ, sz, k, c)) ∧
  (∀ (n : Nat) (l0 l1 l2 l3 l4 l5 : Option Value) (x : Int32)  (σ : zk_S) (sz k c : Nat), zk_run E (zk_VT E) M_X5_isFree (C_X5_isFree E) P PX K (n + 1) 41 [l0, l1, l2, l3, l4, l5] [.int x] (σ, sz, k, c) = (zk_nok (some (.boolean)) x ∧ P (some (.int x)) σ sz ∧ k ≤ 0 ∧ c ≤ 0)) ∧
  (∀ (n : Nat) (l0 l1 l2 l3 l5 : Option Value) (y4 : Int32) (r : List Value) (σ : zk_S) (sz k c : Nat), zk_run E (zk_VT E) M_X5_isFree (C_X5_isFree E) P PX K (n + 1) 42 [l0, l1, l2, l3, some (.int y4), l5] r (σ, sz, k, c) = zk_run E (zk_VT E) M_X5_isFree (C_X5_isFree E) P PX K n 45 [l0, l1, l2, zk_kl l3, some (.int (y4 + 1)), l5] r (σ, sz, k, c)) ∧
  (∀ (n : Nat) (l0 l1 l2 l3 l4 l5 : Option Value)  (r : List Value) (σ : zk_S) (sz k c : Nat), zk_run E (zk_VT E) M_X5_isFree (C_X5_isFree E) P PX K (n + 1) 45 [l0, l1, l2, l3, l4, l5] r (σ, sz, k, c) = zk_run E (zk_VT E) M_X5_isFree (C_X5_isFree E) P PX K n 11 [l0, l1, l2, l3, l4, l5] r (σ, sz, k, c)) ∧
  (∀ (n : Nat) (l1 l2 l3 l4 l5 : Option Value) (y0 : Value) (r : List Value) (σ : zk_S) (sz k c : Nat), zk_run E (zk_VT E) M_X5_isFree (C_X5_isFree E) P PX K (n + 1) 48 [some y0, l1, l2, l3, l4, l5] r (σ, sz, k, c) = (zk_isr y0 ∧ zk_run E (zk_VT E) M_X5_isFree (C_X5_isFree E) P PX K n 49 [some y0, l1, l2, l3, l4, l5] (y0 :: r) (σ, sz, k, c))) ∧
  (∀ (n : Nat) (l0 l1 l2 l3 l4 l5 : Option Value) (a : Nat) (r : List Value) (σ : zk_S) (sz k c : Nat), zk_run E (zk_VT E) M_X5_isFree (C_X5_isFree E) P PX K (n + 1) 49 [l0, l1, l2, l3, l4, l5] (.ref a :: r) (σ, sz, k, c) = zk_fld (zk_view E σ a) [4] 2 (fun v => zk_run E (zk_VT E) M_X5_isFree (C_X5_isFree E) P PX K n 52 [l0, l1, l2, l3, l4, l5] (v :: r) (σ, sz, k, c))) ∧
  (∀ (n : Nat) (l0 l1 l2 l3 l4 l5 : Option Value) (x : Value) (r : List Value) (σ : zk_S) (sz k c : Nat), zk_run E (zk_VT E) M_X5_isFree (C_X5_isFree E) P PX K (n + 1) 52 [l0, l1, l2, l3, l4, l5] (x :: r) (σ, sz, k, c) = (zk_isr x ∧ zk_run E (zk_VT E) M_X5_isFree (C_X5_isFree E) P PX K n 53 [l0, zk_kl l1, some (x), l3, l4, l5] r (σ, sz, k, c))) ∧
  (∀ (n : Nat) (l0 l1 l3 l4 l5 : Option Value) (y2 : Value) (r : List Value) (σ : zk_S) (sz k c : Nat), zk_run E (zk_VT E) M_X5_isFree (C_X5_isFree E) P PX K (n + 1) 53 [l0, l1, some y2, l3, l4, l5] r (σ, sz, k, c) = (zk_isr y2 ∧ zk_run E (zk_VT E) M_X5_isFree (C_X5_isFree E) P PX K n 54 [l0, l1, some y2, l3, l4, l5] (y2 :: r) (σ, sz, k, c))) ∧
  (∀ (n : Nat) (l0 l1 l2 l3 l4 l5 : Option Value) (a : Nat) (r : List Value) (σ : zk_S) (sz k c : Nat), zk_run E (zk_VT E) M_X5_isFree (C_X5_isFree E) P PX K (n + 1) 54 [l0, l1, l2, l3, l4, l5] (.ref a :: r) (σ, sz, k, c) = zk_lenq E (zk_view E σ a) (fun x => zk_run E (zk_VT E) M_X5_isFree (C_X5_isFree E) P PX K n 55 [l0, l1, l2, l3, l4, l5] (.int x :: r) (σ, sz, k, c))) ∧
  (∀ (n : Nat) (l0 l1 l2 l3 l4 l5 : Option Value) (x : Int32) (r : List Value) (σ : zk_S) (sz k c : Nat), zk_run E (zk_VT E) M_X5_isFree (C_X5_isFree E) P PX K (n + 1) 55 [l0, l1, l2, l3, l4, l5] (.int x :: r) (σ, sz, k, c) = zk_run E (zk_VT E) M_X5_isFree (C_X5_isFree E) P PX K n 56 [l0, l1, zk_kl l2, some (.int x), l4, l5] r (σ, sz, k, c)) ∧
  (∀ (n : Nat) (l0 l1 l2 l3 l4 l5 : Option Value)  (r : List Value) (σ : zk_S) (sz k c : Nat), zk_run E (zk_VT E) M_X5_isFree (C_X5_isFree E) P PX K (n + 1) 56 [l0, l1, l2, l3, l4, l5] r (σ, sz, k, c) = zk_run E (zk_VT E) M_X5_isFree (C_X5_isFree E) P PX K n 57 [l0, l1, l2, l3, l4, l5] (.int (0) :: r) (σ, sz, k, c)) ∧
  (∀ (n : Nat) (l0 l1 l2 l3 l4 l5 : Option Value) (x : Int32) (r : List Value) (σ : zk_S) (sz k c : Nat), zk_run E (zk_VT E) M_X5_isFree (C_X5_isFree E) P PX K (n + 1) 57 [l0, l1, l2, l3, l4, l5] (.int x :: r) (σ, sz, k, c) = zk_run E (zk_VT E) M_X5_isFree (C_X5_isFree E) P PX K n 59 [l0, l1, l2, zk_kl l3, some (.int x), l5] r (σ, sz, k, c)) ∧
  (∀ (n : Nat) (l0 l1 l2 l3 l4 l5 : Option Value)  (r : List Value) (σ : zk_S) (sz k c : Nat), zk_run E (zk_VT E) M_X5_isFree (C_X5_isFree E) P PX K (n + 1) 59 [l0, l1, l2, l3, l4, l5] r (σ, sz, k, c) = K 59 [l0, l1, l2, l3, l4, l5] r (σ, sz, k, c)) ∧
  (∀ (n : Nat) (l0 l1 l2 l4 l5 : Option Value) (y3 : Int32) (r : List Value) (σ : zk_S) (sz k c : Nat), zk_run E (zk_VT E) M_X5_isFree (C_X5_isFree E) P PX K (n + 1) 61 [l0, l1, l2, some (.int y3), l4, l5] r (σ, sz, k, c) = zk_run E (zk_VT E) M_X5_isFree (C_X5_isFree E) P PX K n 62 [l0, l1, l2, some (.int y3), l4, l5] (.int y3 :: r) (σ, sz, k, c)) ∧
  (∀ (n : Nat) (l0 l1 l2 l3 l4 l5 : Option Value) (x y : Int32) (r : List Value) (σ : zk_S) (sz k c : Nat), zk_run E (zk_VT E) M_X5_isFree (C_X5_isFree E) P PX K (n + 1) 62 [l0, l1, l2, l3, l4, l5] (.int y :: .int x :: r) (σ, sz, k, c) = ((y ≤ x → zk_run E (zk_VT E) M_X5_isFree (C_X5_isFree E) P PX K n 96 [l0, l1, l2, l3, l4, l5] r (σ, sz, k, c)) ∧ (¬ (y ≤ x) → zk_run E (zk_VT E) M_X5_isFree (C_X5_isFree E) P PX K n 65 [l0, l1, l2, l3, l4, l5] r (σ, sz, k, c)))) ∧
  (∀ (n : Nat) (l0 l1 l3 l4 l5 : Option Value) (y2 : Value) (r : List Value) (σ : zk_S) (sz k c : Nat), zk_run E (zk_VT E) M_X5_isFree (C_X5_isFree E) P PX K (n + 1) 65 [l0, l1, some y2, l3, l4, l5] r (σ, sz, k, c) = (zk_isr y2 ∧ zk_run E (zk_VT E) M_X5_isFree (C_X5_isFree E) P PX K n 66 [l0, l1, some y2, l3, l4, l5] (y2 :: r) (σ, sz, k, c))) ∧
  (∀ (n : Nat) (l0 l1 l2 l3 l5 : Option Value) (y4 : Int32) (r : List Value) (σ : zk_S) (sz k c : Nat), zk_run E (zk_VT E) M_X5_isFree (C_X5_isFree E) P PX K (n + 1) 66 [l0, l1, l2, l3, some (.int y4), l5] r (σ, sz, k, c) = zk_run E (zk_VT E) M_X5_isFree (C_X5_isFree E) P PX K n 68 [l0, l1, l2, l3, some (.int y4), l5] (.int y4 :: r) (σ, sz, k, c)) ∧
  (∀ (n : Nat) (l0 l1 l2 l3 l4 l5 : Option Value) (a : Nat) (i : Int32) (r : List Value) (σ : zk_S) (sz k c : Nat), zk_run E (zk_VT E) M_X5_isFree (C_X5_isFree E) P PX K (n + 1) 68 [l0, l1, l2, l3, l4, l5] (.int i :: .ref a :: r) (σ, sz, k, c) = zk_qld (zk_view E σ a) i [zk_ar E 3, zk_ar E 4, zk_ar E 5, zk_ar E 6, zk_ar E 7] (fun x => (x = none → zk_run E (zk_VT E) M_X5_isFree (C_X5_isFree E) P PX K n 69 [l0, l1, l2, l3, l4, l5] (.null :: r) (σ, sz, k, c)) ∧ ∀ b, x = some b → zk_run E (zk_VT E) M_X5_isFree (C_X5_isFree E) P PX K n 69 [l0, l1, l2, l3, l4, l5] (.ref b :: r) (σ, sz, k, c))) := ⟨by intros; rfl, by intros; rfl, by intros; rfl, by intros; rfl, by intros; rfl, by intros; rfl, by intros; rfl, by intros; rfl, by intros; rfl, by intros; rfl, by intros; rfl, by intros; rfl, by intros; rfl, by intros; rfl, by intros; rfl, by intros; rfl, by intros; rfl, by intros; rfl, by intros; rfl, by intros; rfl, by intros; rfl, by intros; rfl, by intros; rfl, by intros; rfl, by intros; rfl, by intros; rfl, by intros; rfl, by intros; rfl, by intros; rfl, by intros; rfl, by intros; rfl, by intros; rfl, by intros; rfl, by intros; rfl, by intros; rfl, by intros; rfl, by intros; rfl, by intros; rfl, by intros; rfl, by intros; rfl⟩
theorem r_X5_isFree_1 (E : zk_E) (P : zk_P zk_S) (PX : zk_X zk_S) (K : Nat → zk_L → List Value → zk_W zk_S → Prop) : (∀ (n : Nat) (l0 l1 l2 l3 l4 l5 : Option Value) (x : Value) (r : List Value) (σ : zk_S) (sz k c : Nat), zk_run E (zk_VT E) M_X5_isFree (C_X5_isFree E) P PX K (n + 1) 69 [l0, l1, l2, l3, l4, l5] (x :: r) (σ, sz, k, c) = (zk_isr x ∧ zk_run E (zk_VT E) M_X5_isFree (C_X5_isFree E) P PX K n 71 [l0, l1, l2, l3, zk_kl l4, some (x)] r (σ, sz, k, c))) ∧
  (∀ (n : Nat) (l0 l1 l2 l3 l4 : Option Value) (y5 : Value) (r : List Value) (σ : zk_S) (sz k c : Nat), zk_run E (zk_VT E) M_X5_isFree (C_X5_isFree E) P PX K (n + 1) 71 [l0, l1, l2, l3, l4, some y5] r (σ, sz, k, c) = (zk_isr y5 ∧ zk_run E (zk_VT E) M_X5_isFree (C_X5_isFree E) P PX K n 73 [l0, l1, l2, l3, l4, some y5] (y5 :: r) (σ, sz, k, c))) ∧
  (∀ (n : Nat) (l0 l1 l2 l3 l4 l5 : Option Value) (v : Value) (r : List Value) (σ : zk_S) (sz k c : Nat), zk_run E (zk_VT E) M_X5_isFree (C_X5_isFree E) P PX K (n + 1) 73 [l0, l1, l2, l3, l4, l5] (v :: r) (σ, sz, k, c) = (zk_isr v ∧ (v = .null → zk_run E (zk_VT E) M_X5_isFree (C_X5_isFree E) P PX K n 90 [l0, l1, l2, l3, l4, l5] r (σ, sz, k, c)) ∧ (¬ (v = .null) → zk_run E (zk_VT E) M_X5_isFree (C_X5_isFree E) P PX K n 76 [l0, l1, l2, l3, l4, l5] r (σ, sz, k, c)))) ∧
  (∀ (n : Nat) (l0 l1 l2 l3 l4 : Option Value) (y5 : Value) (r : List Value) (σ : zk_S) (sz k c : Nat), zk_run E (zk_VT E) M_X5_isFree (C_X5_isFree E) P PX K (n + 1) 76 [l0, l1, l2, l3, l4, some y5] r (σ, sz, k, c) = (zk_isr y5 ∧ zk_run E (zk_VT E) M_X5_isFree (C_X5_isFree E) P PX K n 78 [l0, l1, l2, l3, l4, some y5] (y5 :: r) (σ, sz, k, c))) ∧
  (∀ (n : Nat) (l0 l1 l2 l3 l4 l5 : Option Value) (a : Nat) (r : List Value) (σ : zk_S) (sz k c : Nat), zk_run E (zk_VT E) M_X5_isFree (C_X5_isFree E) P PX K (n + 1) 78 [l0, l1, l2, l3, l4, l5] (.ref a :: r) (σ, sz, k, c) = zk_fld (zk_view E σ a) [] 0 (fun v => zk_run E (zk_VT E) M_X5_isFree (C_X5_isFree E) P PX K n 81 [l0, l1, l2, l3, l4, l5] (v :: r) (σ, sz, k, c))) ∧
  (∀ (n : Nat) (l0 l2 l3 l4 l5 : Option Value) (y1 : Value) (r : List Value) (σ : zk_S) (sz k c : Nat), zk_run E (zk_VT E) M_X5_isFree (C_X5_isFree E) P PX K (n + 1) 81 [l0, some y1, l2, l3, l4, l5] r (σ, sz, k, c) = (zk_isr y1 ∧ zk_run E (zk_VT E) M_X5_isFree (C_X5_isFree E) P PX K n 82 [l0, some y1, l2, l3, l4, l5] (y1 :: r) (σ, sz, k, c))) ∧
  (∀ (n : Nat) (l0 l1 l2 l3 l4 l5 : Option Value) (v0 : Value) (v1 : Value)  (σ : zk_S) (sz k c : Nat), zk_run E (zk_VT E) M_X5_isFree (C_X5_isFree E) P PX K (n + 1) 82 [l0, l1, l2, l3, l4, l5] [v0, v1] (σ, sz, k, c) = (k + 0 ≤ 0 ∧ c + 0 ≤ 0 ∧ (zk_rv (zk_VT E) (fun ci => Nat.beq ci 3) (sp_X4_sharesWith E)) [v1, v0] σ sz (fun v s2 z2 => zk_run E (zk_VT E) M_X5_isFree (C_X5_isFree E) P PX K n 85 [l0, l1, l2, l3, l4, l5] (zk_psh v []) (s2, z2, k + 0, c + 0)) (fun X s2 z2 => PX X s2 z2))) ∧
  (∀ (n : Nat) (l0 l1 l2 l3 l4 l5 : Option Value) (x : Int32) (r : List Value) (σ : zk_S) (sz k c : Nat), zk_run E (zk_VT E) M_X5_isFree (C_X5_isFree E) P PX K (n + 1) 85 [l0, l1, l2, l3, l4, l5] (.int x :: r) (σ, sz, k, c) = ((x = 0 → zk_run E (zk_VT E) M_X5_isFree (C_X5_isFree E) P PX K n 90 [l0, l1, l2, l3, l4, l5] r (σ, sz, k, c)) ∧ (¬ (x = 0) → zk_run E (zk_VT E) M_X5_isFree (C_X5_isFree E) P PX K n 88 [l0, l1, l2, l3, l4, l5] r (σ, sz, k, c)))) ∧
  (∀ (n : Nat) (l0 l1 l2 l3 l4 l5 : Option Value)  (r : List Value) (σ : zk_S) (sz k c : Nat), zk_run E (zk_VT E) M_X5_isFree (C_X5_isFree E) P PX K (n + 1) 88 [l0, l1, l2, l3, l4, l5] r (σ, sz, k, c) = zk_run E (zk_VT E) M_X5_isFree (C_X5_isFree E) P PX K n 89 [l0, l1, l2, l3, l4, l5] (.int (0) :: r) (σ, sz, k, c)) ∧
  (∀ (n : Nat) (l0 l1 l2 l3 l4 l5 : Option Value) (x : Int32)  (σ : zk_S) (sz k c : Nat), zk_run E (zk_VT E) M_X5_isFree (C_X5_isFree E) P PX K (n + 1) 89 [l0, l1, l2, l3, l4, l5] [.int x] (σ, sz, k, c) = (zk_nok (some (.boolean)) x ∧ P (some (.int x)) σ sz ∧ k ≤ 0 ∧ c ≤ 0)) ∧
  (∀ (n : Nat) (l0 l1 l2 l3 l5 : Option Value) (y4 : Int32) (r : List Value) (σ : zk_S) (sz k c : Nat), zk_run E (zk_VT E) M_X5_isFree (C_X5_isFree E) P PX K (n + 1) 90 [l0, l1, l2, l3, some (.int y4), l5] r (σ, sz, k, c) = zk_run E (zk_VT E) M_X5_isFree (C_X5_isFree E) P PX K n 93 [l0, l1, l2, zk_kl l3, some (.int (y4 + 1)), l5] r (σ, sz, k, c)) ∧
  (∀ (n : Nat) (l0 l1 l2 l3 l4 l5 : Option Value)  (r : List Value) (σ : zk_S) (sz k c : Nat), zk_run E (zk_VT E) M_X5_isFree (C_X5_isFree E) P PX K (n + 1) 93 [l0, l1, l2, l3, l4, l5] r (σ, sz, k, c) = zk_run E (zk_VT E) M_X5_isFree (C_X5_isFree E) P PX K n 59 [l0, l1, l2, l3, l4, l5] r (σ, sz, k, c)) ∧
  (∀ (n : Nat) (l0 l1 l2 l3 l4 l5 : Option Value)  (r : List Value) (σ : zk_S) (sz k c : Nat), zk_run E (zk_VT E) M_X5_isFree (C_X5_isFree E) P PX K (n + 1) 96 [l0, l1, l2, l3, l4, l5] r (σ, sz, k, c) = zk_run E (zk_VT E) M_X5_isFree (C_X5_isFree E) P PX K n 97 [l0, l1, l2, l3, l4, l5] (.int (1) :: r) (σ, sz, k, c)) ∧
  (∀ (n : Nat) (l0 l1 l2 l3 l4 l5 : Option Value) (x : Int32)  (σ : zk_S) (sz k c : Nat), zk_run E (zk_VT E) M_X5_isFree (C_X5_isFree E) P PX K (n + 1) 97 [l0, l1, l2, l3, l4, l5] [.int x] (σ, sz, k, c) = (zk_nok (some (.boolean)) x ∧ P (some (.int x)) σ sz ∧ k ≤ 0 ∧ c ≤ 0)) ∧
  (∀ (n : Nat) (l0 l1 l2 l3 l4 l5 : Option Value) (r : List Value) (w : zk_W zk_S), zk_go E (zk_VT E) M_X5_isFree (C_X5_isFree E) P PX K n 0 [l0, l1, l2, l3, l4, l5] r w = zk_run E (zk_VT E) M_X5_isFree (C_X5_isFree E) P PX K (n + 1) 0 [l0, l1, l2, l3, l4, l5] r w) ∧
  (∀ (n : Nat) (l0 l1 l2 l3 l5 : Option Value) (y4 : Int32) (r : List Value) (σ : zk_S) (sz k c : Nat), zk_go E (zk_VT E) M_X5_isFree (C_X5_isFree E) P PX K n 11 [l0, l1, l2, l3, some (.int y4), l5] r (σ, sz, k, c) = zk_run E (zk_VT E) M_X5_isFree (C_X5_isFree E) P PX K n 13 [l0, l1, l2, l3, some (.int y4), l5] (.int y4 :: r) (σ, sz, k, c)) ∧
  (∀ (n : Nat) (l0 l1 l2 l3 l5 : Option Value) (y4 : Int32) (r : List Value) (σ : zk_S) (sz k c : Nat), zk_go E (zk_VT E) M_X5_isFree (C_X5_isFree E) P PX K n 59 [l0, l1, l2, l3, some (.int y4), l5] r (σ, sz, k, c) = zk_run E (zk_VT E) M_X5_isFree (C_X5_isFree E) P PX K n 61 [l0, l1, l2, l3, some (.int y4), l5] (.int y4 :: r) (σ, sz, k, c)) := ⟨by intros; rfl, by intros; rfl, by intros; rfl, by intros; rfl, by intros; rfl, by intros; rfl, by intros; rfl, by intros; rfl, by intros; rfl, by intros; rfl, by intros; rfl, by intros; rfl, by intros; rfl, by intros; rfl, by intros; rfl, by intros; rfl, by intros; rfl⟩
theorem vc_X5_isFree (E : zk_E) : zk_VC E (zk_VT E) M_X5_isFree (C_X5_isFree E) 6 (sp_X5_isFree E) := by
  intro av σ sz P PX h
  obtain ⟨J, N, Q, O, U⟩ := σ
  unfold sp_X5_isFree at h
  split at h
  case h_2 => exact h.elim
  rename_i a0 p
  obtain ⟨rfl, h⟩ := h
  refine ⟨Nat.le_of_ble_eq_true rfl, fun G hG => ?_⟩
  change G 0 [some (.ref (zk_ad E 1)), some (.ref p), none, none, none, none] [] ((J, N, Q, O, U), sz, 0, 0)
  try dsimp only at h
  obtain ⟨hd, hw4, hp, hP, h⟩ := h
  have c40 : Int32.ofNat 40 = nI 40 := rfl
  have e00 : (0 : Int32) = nI 0 := rfl
  have loopW : P (some (.int (zk_b (!m_ex (w_sh Q O (O p)) 40)))) (J, N, Q, O, U) sz → ∀ m i l4, i + m = 40 → m_ex (w_sh Q O (O p)) i = false → G 59 [some (.ref (zk_ad E 1)), some (.ref p), some (.ref (zk_ad E 4)), some (.int (nI 40)), some (.int (nI i)), l4] [] ((J, N, Q, O, U), sz, 0, 0) := by
    intro h m
    induction m with
    | zero =>
      intro i l4 hi hn
      have c1 : nI 40 ≤ nI i := nI_le (by omega) (by omega)
      have ei : i = 40 := by omega
      subst ei
      rw [hn] at h
      (refine hG 900 _ _ _ _ ?_; simp only [r_X5_isFree, r_X5_isFree_1, c1])
      exact h
    | succ m ih =>
      intro i l4 hi hn
      have c1 : ¬ nI 40 ≤ nI i := nI_ge (by omega) (by omega)
      have ih2 := fun (w : w_sh Q O (O p) i = false) l4 => ih (i + 1) l4 (by omega) (by rw [m_ex, hn, w]; rfl)
      have hw : w_sh Q O (O p) i = true → P (some (.int 0)) (J, N, Q, O, U) sz := fun w => by
        rw [m_ex_true w (by omega)] at h
        exact h
      have hin : vp_in (nI i) 40 := n_in (by omega) (by decide)
      have hcl : (nI i).toNatClampNeg = i := n_cl (by omega)
      cases q : Q 4 i with
      | none =>
        have ih3 := ih2 (by unfold w_sh; rw [q])
        (refine hG 900 _ _ _ _ ?_; simp only [r_X5_isFree, r_X5_isFree_1, c1, hin, hcl, q, n_succ])
        exact ih3 _
      | some c =>
        exact (hw4 i (by omega) c q).elim
  have loopD : ∀ m i l4, i + m = 40 → m_ex (d_sh Q O (O p)) i = false → G 11 [some (.ref (zk_ad E 1)), some (.ref p), some (.ref (zk_ad E 3)), some (.int (nI 40)), some (.int (nI i)), l4] [] ((J, N, Q, O, U), sz, 0, 0) := by
    intro m
    induction m with
    | zero =>
      intro i l4 hi hn
      have c1 : nI 40 ≤ nI i := nI_le (by omega) (by omega)
      have ei : i = 40 := by omega
      subst ei
      rw [hn, Bool.not_false, Bool.true_and] at h
      have l0 := fun l4 => loopW h 40 0 l4 (by omega) rfl
      (refine hG 900 _ _ _ _ ?_; simp only [r_X5_isFree, r_X5_isFree_1, c1, c40, e00])
      exact l0 _
    | succ m ih =>
      intro i l4 hi hn
      have c1 : ¬ nI 40 ≤ nI i := nI_ge (by omega) (by omega)
      have ih2 := fun (w : d_sh Q O (O p) i = false) l4 => ih (i + 1) l4 (by omega) (by rw [m_ex, hn, w]; rfl)
      have hw : d_sh Q O (O p) i = true → P (some (.int 0)) (J, N, Q, O, U) sz := fun w => by
        rw [m_ex_true w (by omega)] at h
        exact h
      have hin : vp_in (nI i) 40 := n_in (by omega) (by decide)
      have hcl : (nI i).toNatClampNeg = i := n_cl (by omega)
      cases q : Q 3 i with
      | none =>
        have ih3 := ih2 (by unfold d_sh; rw [q])
        (refine hG 900 _ _ _ _ ?_; simp only [r_X5_isFree, r_X5_isFree_1, c1, hin, hcl, q, n_succ])
        exact ih3 _
      | some c =>
        obtain ⟨hc, f, t, mx, my, ln, fw, sh, r, hO, hr, hR⟩ := hd i (by omega) c q
        have e0 : d_sh Q O (O p) i = m_shw (O r) (O p) := by unfold d_sh; rw [q]; dsimp only; rw [hO]; rfl
        rw [e0] at ih2 hw
        obtain ⟨p0, p1, p2, p3, p4, hOr⟩ := id hR
        have ir : ∀ k, zk_is (O r) k = (k 3 = true) := fun k => by rw [hOr]; rfl
        unfold cX at hO
        cases z3 : m_shw (O r) (O p) with
        | true =>
          have h3 := hw z3
          (refine hG 900 _ _ _ _ ?_; simp only [r_X5_isFree, r_X5_isFree_1, c1, hin, hcl, q, zk_vd hc, hO, zk_vd hr, ir, spe_X4_sharesWith, hp, hP, hr, hR, z3, zk_b0, Bool.true_eq_false, n_succ])
          exact h3
        | false =>
          have h3 := ih2 z3
          (refine hG 900 _ _ _ _ ?_; simp only [r_X5_isFree, r_X5_isFree_1, c1, hin, hcl, q, zk_vd hc, hO, zk_vd hr, ir, spe_X4_sharesWith, hp, hP, hr, hR, z3, zk_b0, n_succ])
          exact h3 _
  have l0 := loopD 40 0 none (by omega) rfl
  (refine hG 900 _ _ _ _ ?_; simp only [r_X5_isFree, r_X5_isFree_1, c40])
  exact l0
theorem ct_X5_isFree {l : Launch} (hl : l.stackTraces = false) (E : zk_E) : zk_C l E (zk_VT E) yX5_isFree cX5_isFree 6 (some (.boolean)) rm_X5_isFree (sp_X5_isFree E) := by
  refine zk_meth (M := M_X5_isFree) (C := C_X5_isFree E) hl (by decide +kernel) rfl (fun _ _ => rfl) (zk_VT_ok E) MO_X5_isFree TO_X5_isFree THo_X5_isFree ?_ (vc_X5_isFree E)
  exact fun p e s m args below meth c X pc n mc ms sp2 h => by
    have h2 := zk_lka_mem h
    simp only [List.mem_cons, List.not_mem_nil, or_false, Prod.mk.injEq] at h2
    rcases h2 with ⟨rfl, rfl, rfl, rfl, rfl⟩ | ⟨rfl, rfl, rfl, rfl, rfl⟩
    · exact zk_coV (idx := 100) X (ct_X4_sharesWith hl E) (List.forall_mem_cons.mpr ⟨zk_wi 825 (by decide +kernel) rfl, List.forall_mem_cons.mpr ⟨zk_wi 826 (by decide +kernel) rfl, List.forall_mem_cons.mpr ⟨zk_wi 827 (by decide +kernel) rfl, List.forall_mem_cons.mpr ⟨zk_wi 15 (by decide +kernel) rfl, List.forall_mem_cons.mpr ⟨zk_wi 828 (by decide +kernel) rfl, fun _ h => absurd h List.not_mem_nil⟩⟩⟩⟩⟩) (fun ci h => by
      have h := Nat.eq_of_beq_eq_true h
      subst h
      exact ⟨_, _, rfl⟩) (by decide +kernel) ⟨by decide, by decide, by decide +kernel⟩ ⟨by decide, by decide⟩
    · exact zk_coV (idx := 100) X (ct_X4_sharesWith hl E) (List.forall_mem_cons.mpr ⟨zk_wi 825 (by decide +kernel) rfl, List.forall_mem_cons.mpr ⟨zk_wi 826 (by decide +kernel) rfl, List.forall_mem_cons.mpr ⟨zk_wi 827 (by decide +kernel) rfl, List.forall_mem_cons.mpr ⟨zk_wi 15 (by decide +kernel) rfl, List.forall_mem_cons.mpr ⟨zk_wi 828 (by decide +kernel) rfl, fun _ h => absurd h List.not_mem_nil⟩⟩⟩⟩⟩) (fun ci h => by
      have h := Nat.eq_of_beq_eq_true h
      subst h
      exact ⟨_, _, rfl⟩) (by decide +kernel) ⟨by decide, by decide, by decide +kernel⟩ ⟨by decide, by decide⟩
def h_pl (Q : Nat → Nat → Option Nat) (O : zk_Hp) (o : Option va_E) (b : Nat) (oo : Option Nat) : Bool := m_ons o (O b) && ((match oo with
  | none => !m_ex (r_tos Q O o b) 20
  | some c => m_ons o (O c)) && (!m_ex (d_sh Q O o) 40 && !m_ex (w_sh Q O o) 40))
def sp_X5_hasPlaceFor (E : zk_E) : zk_Sp zk_S := fun av σ sz P PX => match av with
  | [.ref a, .ref p, .ref b, o] => a = zk_ad E 1 ∧ ROK E σ.2.2.1 σ.2.2.2.1 ∧ DOK E σ.2.2.1 σ.2.2.2.1 ∧ WOK E σ.2.2.1 σ.2.2.2.1 ∧ E.1 + 28 ≤ p ∧ isP (σ.2.2.2.1 p) ∧ E.1 + 28 ≤ b ∧ isR (σ.2.2.2.1 b) ∧ ∃ oo, o = va_rf oo ∧ (∀ c, oo = some c → E.1 + 28 ≤ c ∧ isR (σ.2.2.2.1 c)) ∧ P (some (.int (zk_b (h_pl σ.2.2.1 σ.2.2.2.1 (σ.2.2.2.1 p) b oo)))) σ sz
  | _ => False
theorem spe_X5_hasPlaceFor (E : zk_E) (a : Nat) (p : Nat) (b : Nat) (o : Value) (σ : zk_S) (sz : Nat) (P : zk_P zk_S) (PX : zk_X zk_S) : sp_X5_hasPlaceFor E [.ref a, .ref p, .ref b, o] σ sz P PX = (a = zk_ad E 1 ∧ ROK E σ.2.2.1 σ.2.2.2.1 ∧ DOK E σ.2.2.1 σ.2.2.2.1 ∧ WOK E σ.2.2.1 σ.2.2.2.1 ∧ E.1 + 28 ≤ p ∧ isP (σ.2.2.2.1 p) ∧ E.1 + 28 ≤ b ∧ isR (σ.2.2.2.1 b) ∧ ∃ oo, o = va_rf oo ∧ (∀ c, oo = some c → E.1 + 28 ≤ c ∧ isR (σ.2.2.2.1 c)) ∧ P (some (.int (zk_b (h_pl σ.2.2.1 σ.2.2.2.1 (σ.2.2.2.1 p) b oo)))) σ sz) := propext Iff.rfl
def C_X5_hasPlaceFor (E : zk_E) : zk_Cl zk_S := zk_lka [(2, 2, 0, 0, zk_rv (zk_VT E) (fun ci => Nat.beq ci 3) (sp_X4_isOnSideOf E)), (17, 3, 0, 0, zk_rv (zk_VT E) (fun ci => Nat.beq ci 4) (sp_X5_touchesOthers E)), (33, 2, 0, 0, zk_rv (zk_VT E) (fun ci => Nat.beq ci 3) (sp_X4_isOnSideOf E)), (45, 2, 0, 0, zk_rv (zk_VT E) (fun ci => Nat.beq ci 4) (sp_X5_isFree E))]
theorem r_X5_hasPlaceFor (E : zk_E) (P : zk_P zk_S) (PX : zk_X zk_S) (K : Nat → zk_L → List Value → zk_W zk_S → Prop) : (∀ (n : Nat) (l0 l2 l3 l4 : Option Value) (y1 : Value) (r : List Value) (σ : zk_S) (sz k c : Nat), zk_run E (zk_VT E) M_X5_hasPlaceFor (C_X5_hasPlaceFor E) P PX K (n + 1) 0 [l0, some y1, l2, l3, l4] r (σ, sz, k, c) = (zk_isr y1 ∧ zk_run E (zk_VT E) M_X5_hasPlaceFor (C_X5_hasPlaceFor E) P PX K n 1 [l0, some y1, l2, l3, l4] (y1 :: r) (σ, sz, k, c))) ∧
  (∀ (n : Nat) (l0 l1 l3 l4 : Option Value) (y2 : Value) (r : List Value) (σ : zk_S) (sz k c : Nat), zk_run E (zk_VT E) M_X5_hasPlaceFor (C_X5_hasPlaceFor E) P PX K (n + 1) 1 [l0, l1, some y2, l3, l4] r (σ, sz, k, c) = (zk_isr y2 ∧ zk_run E (zk_VT E) M_X5_hasPlaceFor (C_X5_hasPlaceFor E) P PX K n 2 [l0, l1, some y2, l3, l4] (y2 :: r) (σ, sz, k, c))) ∧
  (∀ (n : Nat) (l0 l1 l2 l3 l4 : Option Value) (v0 : Value) (v1 : Value)  (σ : zk_S) (sz k c : Nat), zk_run E (zk_VT E) M_X5_hasPlaceFor (C_X5_hasPlaceFor E) P PX K (n + 1) 2 [l0, l1, l2, l3, l4] [v0, v1] (σ, sz, k, c) = (k + 0 ≤ 0 ∧ c + 0 ≤ 0 ∧ (zk_rv (zk_VT E) (fun ci => Nat.beq ci 3) (sp_X4_isOnSideOf E)) [v1, v0] σ sz (fun v s2 z2 => zk_run E (zk_VT E) M_X5_hasPlaceFor (C_X5_hasPlaceFor E) P PX K n 5 [l0, l1, l2, l3, l4] (zk_psh v []) (s2, z2, k + 0, c + 0)) (fun X s2 z2 => PX X s2 z2))) ∧
  (∀ (n : Nat) (l0 l1 l2 l3 l4 : Option Value) (x : Int32) (r : List Value) (σ : zk_S) (sz k c : Nat), zk_run E (zk_VT E) M_X5_hasPlaceFor (C_X5_hasPlaceFor E) P PX K (n + 1) 5 [l0, l1, l2, l3, l4] (.int x :: r) (σ, sz, k, c) = ((¬ x = 0 → zk_run E (zk_VT E) M_X5_hasPlaceFor (C_X5_hasPlaceFor E) P PX K n 10 [l0, l1, l2, l3, l4] r (σ, sz, k, c)) ∧ (¬ (¬ x = 0) → zk_run E (zk_VT E) M_X5_hasPlaceFor (C_X5_hasPlaceFor E) P PX K n 8 [l0, l1, l2, l3, l4] r (σ, sz, k, c)))) ∧
  (∀ (n : Nat) (l0 l1 l2 l3 l4 : Option Value)  (r : List Value) (σ : zk_S) (sz k c : Nat), zk_run E (zk_VT E) M_X5_hasPlaceFor (C_X5_hasPlaceFor E) P PX K (n + 1) 8 [l0, l1, l2, l3, l4] r (σ, sz, k, c) = zk_run E (zk_VT E) M_X5_hasPlaceFor (C_X5_hasPlaceFor E) P PX K n 9 [l0, l1, l2, l3, l4] (.int (0) :: r) (σ, sz, k, c)) ∧
  (∀ (n : Nat) (l0 l1 l2 l3 l4 : Option Value) (x : Int32)  (σ : zk_S) (sz k c : Nat), zk_run E (zk_VT E) M_X5_hasPlaceFor (C_X5_hasPlaceFor E) P PX K (n + 1) 9 [l0, l1, l2, l3, l4] [.int x] (σ, sz, k, c) = (zk_nok (some (.boolean)) x ∧ P (some (.int x)) σ sz ∧ k ≤ 0 ∧ c ≤ 0)) ∧
  (∀ (n : Nat) (l0 l1 l2 l4 : Option Value) (y3 : Value) (r : List Value) (σ : zk_S) (sz k c : Nat), zk_run E (zk_VT E) M_X5_hasPlaceFor (C_X5_hasPlaceFor E) P PX K (n + 1) 10 [l0, l1, l2, some y3, l4] r (σ, sz, k, c) = (zk_isr y3 ∧ zk_run E (zk_VT E) M_X5_hasPlaceFor (C_X5_hasPlaceFor E) P PX K n 11 [l0, l1, l2, some y3, l4] (y3 :: r) (σ, sz, k, c))) ∧
  (∀ (n : Nat) (l0 l1 l2 l3 l4 : Option Value) (v : Value) (r : List Value) (σ : zk_S) (sz k c : Nat), zk_run E (zk_VT E) M_X5_hasPlaceFor (C_X5_hasPlaceFor E) P PX K (n + 1) 11 [l0, l1, l2, l3, l4] (v :: r) (σ, sz, k, c) = (zk_isr v ∧ (¬ v = .null → zk_run E (zk_VT E) M_X5_hasPlaceFor (C_X5_hasPlaceFor E) P PX K n 31 [l0, l1, l2, l3, l4] r (σ, sz, k, c)) ∧ (¬ (¬ v = .null) → zk_run E (zk_VT E) M_X5_hasPlaceFor (C_X5_hasPlaceFor E) P PX K n 14 [l0, l1, l2, l3, l4] r (σ, sz, k, c)))) ∧
  (∀ (n : Nat) (l1 l2 l3 l4 : Option Value) (y0 : Value) (r : List Value) (σ : zk_S) (sz k c : Nat), zk_run E (zk_VT E) M_X5_hasPlaceFor (C_X5_hasPlaceFor E) P PX K (n + 1) 14 [some y0, l1, l2, l3, l4] r (σ, sz, k, c) = (zk_isr y0 ∧ zk_run E (zk_VT E) M_X5_hasPlaceFor (C_X5_hasPlaceFor E) P PX K n 15 [some y0, l1, l2, l3, l4] (y0 :: r) (σ, sz, k, c))) ∧
  (∀ (n : Nat) (l0 l2 l3 l4 : Option Value) (y1 : Value) (r : List Value) (σ : zk_S) (sz k c : Nat), zk_run E (zk_VT E) M_X5_hasPlaceFor (C_X5_hasPlaceFor E) P PX K (n + 1) 15 [l0, some y1, l2, l3, l4] r (σ, sz, k, c) = (zk_isr y1 ∧ zk_run E (zk_VT E) M_X5_hasPlaceFor (C_X5_hasPlaceFor E) P PX K n 16 [l0, some y1, l2, l3, l4] (y1 :: r) (σ, sz, k, c))) ∧
  (∀ (n : Nat) (l0 l1 l3 l4 : Option Value) (y2 : Value) (r : List Value) (σ : zk_S) (sz k c : Nat), zk_run E (zk_VT E) M_X5_hasPlaceFor (C_X5_hasPlaceFor E) P PX K (n + 1) 16 [l0, l1, some y2, l3, l4] r (σ, sz, k, c) = (zk_isr y2 ∧ zk_run E (zk_VT E) M_X5_hasPlaceFor (C_X5_hasPlaceFor E) P PX K n 17 [l0, l1, some y2, l3, l4] (y2 :: r) (σ, sz, k, c))) ∧
  (∀ (n : Nat) (l0 l1 l2 l3 l4 : Option Value) (v0 : Value) (v1 : Value) (v2 : Value)  (σ : zk_S) (sz k c : Nat), zk_run E (zk_VT E) M_X5_hasPlaceFor (C_X5_hasPlaceFor E) P PX K (n + 1) 17 [l0, l1, l2, l3, l4] [v0, v1, v2] (σ, sz, k, c) = (k + 0 ≤ 0 ∧ c + 0 ≤ 0 ∧ (zk_rv (zk_VT E) (fun ci => Nat.beq ci 4) (sp_X5_touchesOthers E)) [v2, v1, v0] σ sz (fun v s2 z2 => zk_run E (zk_VT E) M_X5_hasPlaceFor (C_X5_hasPlaceFor E) P PX K n 20 [l0, l1, l2, l3, l4] (zk_psh v []) (s2, z2, k + 0, c + 0)) (fun X s2 z2 => PX X s2 z2))) ∧
  (∀ (n : Nat) (l0 l1 l2 l3 l4 : Option Value) (x : Int32) (r : List Value) (σ : zk_S) (sz k c : Nat), zk_run E (zk_VT E) M_X5_hasPlaceFor (C_X5_hasPlaceFor E) P PX K (n + 1) 20 [l0, l1, l2, l3, l4] (.int x :: r) (σ, sz, k, c) = ((¬ x = 0 → zk_run E (zk_VT E) M_X5_hasPlaceFor (C_X5_hasPlaceFor E) P PX K n 27 [l0, l1, l2, l3, l4] r (σ, sz, k, c)) ∧ (¬ (¬ x = 0) → zk_run E (zk_VT E) M_X5_hasPlaceFor (C_X5_hasPlaceFor E) P PX K n 23 [l0, l1, l2, l3, l4] r (σ, sz, k, c)))) ∧
  (∀ (n : Nat) (l0 l1 l2 l3 l4 : Option Value)  (r : List Value) (σ : zk_S) (sz k c : Nat), zk_run E (zk_VT E) M_X5_hasPlaceFor (C_X5_hasPlaceFor E) P PX K (n + 1) 23 [l0, l1, l2, l3, l4] r (σ, sz, k, c) = zk_run E (zk_VT E) M_X5_hasPlaceFor (C_X5_hasPlaceFor E) P PX K n 24 [l0, l1, l2, l3, l4] (.int (1) :: r) (σ, sz, k, c)) ∧
  (∀ (n : Nat) (l0 l1 l2 l3 l4 : Option Value)  (r : List Value) (σ : zk_S) (sz k c : Nat), zk_run E (zk_VT E) M_X5_hasPlaceFor (C_X5_hasPlaceFor E) P PX K (n + 1) 24 [l0, l1, l2, l3, l4] r (σ, sz, k, c) = zk_run E (zk_VT E) M_X5_hasPlaceFor (C_X5_hasPlaceFor E) P PX K n 36 [l0, l1, l2, l3, l4] r (σ, sz, k, c)) ∧
  (∀ (n : Nat) (l0 l1 l2 l3 l4 : Option Value)  (r : List Value) (σ : zk_S) (sz k c : Nat), zk_run E (zk_VT E) M_X5_hasPlaceFor (C_X5_hasPlaceFor E) P PX K (n + 1) 27 [l0, l1, l2, l3, l4] r (σ, sz, k, c) = zk_run E (zk_VT E) M_X5_hasPlaceFor (C_X5_hasPlaceFor E) P PX K n 28 [l0, l1, l2, l3, l4] (.int (0) :: r) (σ, sz, k, c)) ∧
  (∀ (n : Nat) (l0 l1 l2 l3 l4 : Option Value)  (r : List Value) (σ : zk_S) (sz k c : Nat), zk_run E (zk_VT E) M_X5_hasPlaceFor (C_X5_hasPlaceFor E) P PX K (n + 1) 28 [l0, l1, l2, l3, l4] r (σ, sz, k, c) = zk_run E (zk_VT E) M_X5_hasPlaceFor (C_X5_hasPlaceFor E) P PX K n 36 [l0, l1, l2, l3, l4] r (σ, sz, k, c)) ∧
  (∀ (n : Nat) (l0 l2 l3 l4 : Option Value) (y1 : Value) (r : List Value) (σ : zk_S) (sz k c : Nat), zk_run E (zk_VT E) M_X5_hasPlaceFor (C_X5_hasPlaceFor E) P PX K (n + 1) 31 [l0, some y1, l2, l3, l4] r (σ, sz, k, c) = (zk_isr y1 ∧ zk_run E (zk_VT E) M_X5_hasPlaceFor (C_X5_hasPlaceFor E) P PX K n 32 [l0, some y1, l2, l3, l4] (y1 :: r) (σ, sz, k, c))) ∧
  (∀ (n : Nat) (l0 l1 l2 l4 : Option Value) (y3 : Value) (r : List Value) (σ : zk_S) (sz k c : Nat), zk_run E (zk_VT E) M_X5_hasPlaceFor (C_X5_hasPlaceFor E) P PX K (n + 1) 32 [l0, l1, l2, some y3, l4] r (σ, sz, k, c) = (zk_isr y3 ∧ zk_run E (zk_VT E) M_X5_hasPlaceFor (C_X5_hasPlaceFor E) P PX K n 33 [l0, l1, l2, some y3, l4] (y3 :: r) (σ, sz, k, c))) ∧
  (∀ (n : Nat) (l0 l1 l2 l3 l4 : Option Value) (v0 : Value) (v1 : Value)  (σ : zk_S) (sz k c : Nat), zk_run E (zk_VT E) M_X5_hasPlaceFor (C_X5_hasPlaceFor E) P PX K (n + 1) 33 [l0, l1, l2, l3, l4] [v0, v1] (σ, sz, k, c) = (k + 0 ≤ 0 ∧ c + 0 ≤ 0 ∧ (zk_rv (zk_VT E) (fun ci => Nat.beq ci 3) (sp_X4_isOnSideOf E)) [v1, v0] σ sz (fun v s2 z2 => zk_run E (zk_VT E) M_X5_hasPlaceFor (C_X5_hasPlaceFor E) P PX K n 36 [l0, l1, l2, l3, l4] (zk_psh v []) (s2, z2, k + 0, c + 0)) (fun X s2 z2 => PX X s2 z2))) ∧
  (∀ (n : Nat) (l0 l1 l2 l3 l4 : Option Value) (x : Int32) (r : List Value) (σ : zk_S) (sz k c : Nat), zk_run E (zk_VT E) M_X5_hasPlaceFor (C_X5_hasPlaceFor E) P PX K (n + 1) 36 [l0, l1, l2, l3, l4] (.int x :: r) (σ, sz, k, c) = zk_run E (zk_VT E) M_X5_hasPlaceFor (C_X5_hasPlaceFor E) P PX K n 38 [l0, l1, l2, zk_kl l3, some (.int x)] r (σ, sz, k, c)) ∧
  (∀ (n : Nat) (l0 l1 l2 l3 : Option Value) (y4 : Int32) (r : List Value) (σ : zk_S) (sz k c : Nat), zk_run E (zk_VT E) M_X5_hasPlaceFor (C_X5_hasPlaceFor E) P PX K (n + 1) 38 [l0, l1, l2, l3, some (.int y4)] r (σ, sz, k, c) = zk_run E (zk_VT E) M_X5_hasPlaceFor (C_X5_hasPlaceFor E) P PX K n 40 [l0, l1, l2, l3, some (.int y4)] (.int y4 :: r) (σ, sz, k, c)) ∧
  (∀ (n : Nat) (l0 l1 l2 l3 l4 : Option Value) (x : Int32) (r : List Value) (σ : zk_S) (sz k c : Nat), zk_run E (zk_VT E) M_X5_hasPlaceFor (C_X5_hasPlaceFor E) P PX K (n + 1) 40 [l0, l1, l2, l3, l4] (.int x :: r) (σ, sz, k, c) = ((x = 0 → zk_run E (zk_VT E) M_X5_hasPlaceFor (C_X5_hasPlaceFor E) P PX K n 55 [l0, l1, l2, l3, l4] r (σ, sz, k, c)) ∧ (¬ (x = 0) → zk_run E (zk_VT E) M_X5_hasPlaceFor (C_X5_hasPlaceFor E) P PX K n 43 [l0, l1, l2, l3, l4] r (σ, sz, k, c)))) ∧
  (∀ (n : Nat) (l1 l2 l3 l4 : Option Value) (y0 : Value) (r : List Value) (σ : zk_S) (sz k c : Nat), zk_run E (zk_VT E) M_X5_hasPlaceFor (C_X5_hasPlaceFor E) P PX K (n + 1) 43 [some y0, l1, l2, l3, l4] r (σ, sz, k, c) = (zk_isr y0 ∧ zk_run E (zk_VT E) M_X5_hasPlaceFor (C_X5_hasPlaceFor E) P PX K n 44 [some y0, l1, l2, l3, l4] (y0 :: r) (σ, sz, k, c))) ∧
  (∀ (n : Nat) (l0 l2 l3 l4 : Option Value) (y1 : Value) (r : List Value) (σ : zk_S) (sz k c : Nat), zk_run E (zk_VT E) M_X5_hasPlaceFor (C_X5_hasPlaceFor E) P PX K (n + 1) 44 [l0, some y1, l2, l3, l4] r (σ, sz, k, c) = (zk_isr y1 ∧ zk_run E (zk_VT E) M_X5_hasPlaceFor (C_X5_hasPlaceFor E) P PX K n 45 [l0, some y1, l2, l3, l4] (y1 :: r) (σ, sz, k, c))) ∧
  (∀ (n : Nat) (l0 l1 l2 l3 l4 : Option Value) (v0 : Value) (v1 : Value)  (σ : zk_S) (sz k c : Nat), zk_run E (zk_VT E) M_X5_hasPlaceFor (C_X5_hasPlaceFor E) P PX K (n + 1) 45 [l0, l1, l2, l3, l4] [v0, v1] (σ, sz, k, c) = (k + 0 ≤ 0 ∧ c + 0 ≤ 0 ∧ (zk_rv (zk_VT E) (fun ci => Nat.beq ci 4) (sp_X5_isFree E)) [v1, v0] σ sz (fun v s2 z2 => zk_run E (zk_VT E) M_X5_hasPlaceFor (C_X5_hasPlaceFor E) P PX K n 48 [l0, l1, l2, l3, l4] (zk_psh v []) (s2, z2, k + 0, c + 0)) (fun X s2 z2 => PX X s2 z2))) ∧
  (∀ (n : Nat) (l0 l1 l2 l3 l4 : Option Value) (x : Int32) (r : List Value) (σ : zk_S) (sz k c : Nat), zk_run E (zk_VT E) M_X5_hasPlaceFor (C_X5_hasPlaceFor E) P PX K (n + 1) 48 [l0, l1, l2, l3, l4] (.int x :: r) (σ, sz, k, c) = ((x = 0 → zk_run E (zk_VT E) M_X5_hasPlaceFor (C_X5_hasPlaceFor E) P PX K n 55 [l0, l1, l2, l3, l4] r (σ, sz, k, c)) ∧ (¬ (x = 0) → zk_run E (zk_VT E) M_X5_hasPlaceFor (C_X5_hasPlaceFor E) P PX K n 51 [l0, l1, l2, l3, l4] r (σ, sz, k, c)))) ∧
  (∀ (n : Nat) (l0 l1 l2 l3 l4 : Option Value)  (r : List Value) (σ : zk_S) (sz k c : Nat), zk_run E (zk_VT E) M_X5_hasPlaceFor (C_X5_hasPlaceFor E) P PX K (n + 1) 51 [l0, l1, l2, l3, l4] r (σ, sz, k, c) = zk_run E (zk_VT E) M_X5_hasPlaceFor (C_X5_hasPlaceFor E) P PX K n 52 [l0, l1, l2, l3, l4] (.int (1) :: r) (σ, sz, k, c)) ∧
  (∀ (n : Nat) (l0 l1 l2 l3 l4 : Option Value)  (r : List Value) (σ : zk_S) (sz k c : Nat), zk_run E (zk_VT E) M_X5_hasPlaceFor (C_X5_hasPlaceFor E) P PX K (n + 1) 52 [l0, l1, l2, l3, l4] r (σ, sz, k, c) = zk_run E (zk_VT E) M_X5_hasPlaceFor (C_X5_hasPlaceFor E) P PX K n 56 [l0, l1, l2, l3, l4] r (σ, sz, k, c)) ∧
  (∀ (n : Nat) (l0 l1 l2 l3 l4 : Option Value)  (r : List Value) (σ : zk_S) (sz k c : Nat), zk_run E (zk_VT E) M_X5_hasPlaceFor (C_X5_hasPlaceFor E) P PX K (n + 1) 55 [l0, l1, l2, l3, l4] r (σ, sz, k, c) = zk_run E (zk_VT E) M_X5_hasPlaceFor (C_X5_hasPlaceFor E) P PX K n 56 [l0, l1, l2, l3, l4] (.int (0) :: r) (σ, sz, k, c)) ∧
  (∀ (n : Nat) (l0 l1 l2 l3 l4 : Option Value) (x : Int32)  (σ : zk_S) (sz k c : Nat), zk_run E (zk_VT E) M_X5_hasPlaceFor (C_X5_hasPlaceFor E) P PX K (n + 1) 56 [l0, l1, l2, l3, l4] [.int x] (σ, sz, k, c) = (zk_nok (some (.boolean)) x ∧ P (some (.int x)) σ sz ∧ k ≤ 0 ∧ c ≤ 0)) ∧
  (∀ (n : Nat) (l0 l1 l2 l3 l4 : Option Value) (r : List Value) (w : zk_W zk_S), zk_go E (zk_VT E) M_X5_hasPlaceFor (C_X5_hasPlaceFor E) P PX K n 0 [l0, l1, l2, l3, l4] r w = zk_run E (zk_VT E) M_X5_hasPlaceFor (C_X5_hasPlaceFor E) P PX K (n + 1) 0 [l0, l1, l2, l3, l4] r w) := ⟨by intros; rfl, by intros; rfl, by intros; rfl, by intros; rfl, by intros; rfl, by intros; rfl, by intros; rfl, by intros; rfl, by intros; rfl, by intros; rfl, by intros; rfl, by intros; rfl, by intros; rfl, by intros; rfl, by intros; rfl, by intros; rfl, by intros; rfl, by intros; rfl, by intros; rfl, by intros; rfl, by intros; rfl, by intros; rfl, by intros; rfl, by intros; rfl, by intros; rfl, by intros; rfl, by intros; rfl, by intros; rfl, by intros; rfl, by intros; rfl, by intros; rfl, by intros; rfl⟩
theorem vc_X5_hasPlaceFor (E : zk_E) : zk_VC E (zk_VT E) M_X5_hasPlaceFor (C_X5_hasPlaceFor E) 5 (sp_X5_hasPlaceFor E) := by
  intro av σ sz P PX h
  obtain ⟨J, N, Q, O, U⟩ := σ
  unfold sp_X5_hasPlaceFor at h
  split at h
  case h_2 => exact h.elim
  rename_i a0 p b o
  obtain ⟨rfl, h⟩ := h
  try dsimp only at h
  obtain ⟨hr, hd, hw, hp, hP, hb, hB, oo, rfl, hoo, h⟩ := h
  obtain ⟨p0, p1, p2, p3, p4, hOp⟩ := id hP
  have ip : ∀ k, zk_is (O p) k = (k 3 = true) := fun k => by rw [hOp]; rfl
  unfold h_pl at h
  cases oo with
  | none =>
    refine ⟨Nat.le_of_ble_eq_true rfl, fun G hG => ?_⟩
    change G 0 [some (.ref (zk_ad E 1)), some (.ref p), some (.ref b), some .null, none] [] ((J, N, Q, O, U), sz, 0, 0)
    cases q1 : m_ons (O p) (O b) with
    | false =>
      rw [q1, Bool.false_and] at h
      (refine hG 900 _ _ _ _ ?_; simp only [r_X5_hasPlaceFor, zk_vd hp, ip, spe_X4_isOnSideOf, hp, hP, hb, hB, q1, zk_b0])
      exact h
    | true =>
      rw [q1, Bool.true_and] at h
      dsimp only at h
      cases q2 : m_ex (r_tos Q O (O p) b) 20 with
      | true =>
        rw [q2, Bool.not_true, Bool.false_and] at h
        (refine hG 900 _ _ _ _ ?_; simp only [r_X5_hasPlaceFor, zk_vd hp, ip, spe_X4_isOnSideOf, hp, hP, hb, hB, q1, zk_b0, Bool.true_eq_false, spe_X5_touchesOthers, hr, q2])
        exact h
      | false =>
        rw [q2, Bool.not_false, Bool.true_and] at h
        cases q3 : (!m_ex (d_sh Q O (O p)) 40 && !m_ex (w_sh Q O (O p)) 40) with
        | true =>
          rw [q3] at h
          (refine hG 900 _ _ _ _ ?_; simp only [r_X5_hasPlaceFor, zk_vd hp, ip, spe_X4_isOnSideOf, hp, hP, hb, hB, q1, zk_b0, Bool.true_eq_false, spe_X5_touchesOthers, hr, q2, spe_X5_isFree, hd, hw, q3])
          exact h
        | false =>
          rw [q3] at h
          (refine hG 900 _ _ _ _ ?_; simp only [r_X5_hasPlaceFor, zk_vd hp, ip, spe_X4_isOnSideOf, hp, hP, hb, hB, q1, zk_b0, Bool.true_eq_false, spe_X5_touchesOthers, hr, q2, spe_X5_isFree, hd, hw, q3])
          exact h
  | some c =>
    refine ⟨Nat.le_of_ble_eq_true rfl, fun G hG => ?_⟩
    change G 0 [some (.ref (zk_ad E 1)), some (.ref p), some (.ref b), some (.ref c), none] [] ((J, N, Q, O, U), sz, 0, 0)
    cases q1 : m_ons (O p) (O b) with
    | false =>
      rw [q1, Bool.false_and] at h
      (refine hG 900 _ _ _ _ ?_; simp only [r_X5_hasPlaceFor, zk_vd hp, ip, spe_X4_isOnSideOf, hp, hP, hb, hB, q1, zk_b0])
      exact h
    | true =>
      rw [q1, Bool.true_and] at h
      obtain ⟨hc, hC⟩ := hoo c rfl
      dsimp only at h
      cases q2 : m_ons (O p) (O c) with
      | false =>
        rw [q2, Bool.false_and] at h
        (refine hG 900 _ _ _ _ ?_; simp only [r_X5_hasPlaceFor, zk_vd hp, ip, spe_X4_isOnSideOf, hp, hP, hb, hB, hc, hC, q1, zk_b0, Bool.true_eq_false, q2])
        exact h
      | true =>
        rw [q2, Bool.true_and] at h
        cases q3 : (!m_ex (d_sh Q O (O p)) 40 && !m_ex (w_sh Q O (O p)) 40) with
        | true =>
          rw [q3] at h
          (refine hG 900 _ _ _ _ ?_; simp only [r_X5_hasPlaceFor, zk_vd hp, ip, spe_X4_isOnSideOf, hp, hP, hb, hB, hc, hC, q1, zk_b0, Bool.true_eq_false, q2, spe_X5_isFree, hd, hw, q3])
          exact h
        | false =>
          rw [q3] at h
          (refine hG 900 _ _ _ _ ?_; simp only [r_X5_hasPlaceFor, zk_vd hp, ip, spe_X4_isOnSideOf, hp, hP, hb, hB, hc, hC, q1, zk_b0, Bool.true_eq_false, q2, spe_X5_isFree, hd, hw, q3])
          exact h
theorem ct_X5_hasPlaceFor {l : Launch} (hl : l.stackTraces = false) (E : zk_E) : zk_C l E (zk_VT E) yX5_hasPlaceFor cX5_hasPlaceFor 5 (some (.boolean)) rm_X5_hasPlaceFor (sp_X5_hasPlaceFor E) := by
  refine zk_meth (M := M_X5_hasPlaceFor) (C := C_X5_hasPlaceFor E) hl (by decide +kernel) rfl (fun _ _ => rfl) (zk_VT_ok E) MO_X5_hasPlaceFor TO_X5_hasPlaceFor THo_X5_hasPlaceFor ?_ (vc_X5_hasPlaceFor E)
  exact fun p e s m args below meth c X pc n mc ms sp2 h => by
    have h2 := zk_lka_mem h
    simp only [List.mem_cons, List.not_mem_nil, or_false, Prod.mk.injEq] at h2
    rcases h2 with ⟨rfl, rfl, rfl, rfl, rfl⟩ | ⟨rfl, rfl, rfl, rfl, rfl⟩ | ⟨rfl, rfl, rfl, rfl, rfl⟩ | ⟨rfl, rfl, rfl, rfl, rfl⟩
    · exact zk_coV (idx := 85) X (ct_X4_isOnSideOf hl E) (List.forall_mem_cons.mpr ⟨zk_wi 797 (by decide +kernel) rfl, List.forall_mem_cons.mpr ⟨zk_wi 798 (by decide +kernel) rfl, List.forall_mem_cons.mpr ⟨zk_wi 799 (by decide +kernel) rfl, List.forall_mem_cons.mpr ⟨zk_wi 15 (by decide +kernel) rfl, List.forall_mem_cons.mpr ⟨zk_wi 800 (by decide +kernel) rfl, fun _ h => absurd h List.not_mem_nil⟩⟩⟩⟩⟩) (fun ci h => by
      have h := Nat.eq_of_beq_eq_true h
      subst h
      exact ⟨_, _, rfl⟩) (by decide +kernel) ⟨by decide, by decide, by decide +kernel⟩ ⟨by decide, by decide⟩
    · exact zk_coV (idx := 88) X (ct_X5_touchesOthers hl E) (List.forall_mem_cons.mpr ⟨zk_wi 813 (by decide +kernel) rfl, List.forall_mem_cons.mpr ⟨zk_wi 814 (by decide +kernel) rfl, List.forall_mem_cons.mpr ⟨zk_wi 815 (by decide +kernel) rfl, List.forall_mem_cons.mpr ⟨zk_wi 3 (by decide +kernel) rfl, List.forall_mem_cons.mpr ⟨zk_wi 816 (by decide +kernel) rfl, fun _ h => absurd h List.not_mem_nil⟩⟩⟩⟩⟩) (fun ci h => by
      have h := Nat.eq_of_beq_eq_true h
      subst h
      exact ⟨_, _, rfl⟩) (by decide +kernel) ⟨by decide, by decide, by decide +kernel⟩ ⟨by decide, by decide⟩
    · exact zk_coV (idx := 85) X (ct_X4_isOnSideOf hl E) (List.forall_mem_cons.mpr ⟨zk_wi 797 (by decide +kernel) rfl, List.forall_mem_cons.mpr ⟨zk_wi 798 (by decide +kernel) rfl, List.forall_mem_cons.mpr ⟨zk_wi 799 (by decide +kernel) rfl, List.forall_mem_cons.mpr ⟨zk_wi 15 (by decide +kernel) rfl, List.forall_mem_cons.mpr ⟨zk_wi 800 (by decide +kernel) rfl, fun _ h => absurd h List.not_mem_nil⟩⟩⟩⟩⟩) (fun ci h => by
      have h := Nat.eq_of_beq_eq_true h
      subst h
      exact ⟨_, _, rfl⟩) (by decide +kernel) ⟨by decide, by decide, by decide +kernel⟩ ⟨by decide, by decide⟩
    · exact zk_coV (idx := 92) X (ct_X5_isFree hl E) (List.forall_mem_cons.mpr ⟨zk_wi 821 (by decide +kernel) rfl, List.forall_mem_cons.mpr ⟨zk_wi 822 (by decide +kernel) rfl, List.forall_mem_cons.mpr ⟨zk_wi 823 (by decide +kernel) rfl, List.forall_mem_cons.mpr ⟨zk_wi 3 (by decide +kernel) rfl, List.forall_mem_cons.mpr ⟨zk_wi 824 (by decide +kernel) rfl, fun _ h => absurd h List.not_mem_nil⟩⟩⟩⟩⟩) (fun ci h => by
      have h := Nat.eq_of_beq_eq_true h
      subst h
      exact ⟨_, _, rfl⟩) (by decide +kernel) ⟨by decide, by decide, by decide +kernel⟩ ⟨by decide, by decide⟩


