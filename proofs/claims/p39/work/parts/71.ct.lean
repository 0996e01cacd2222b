/-! the class: tellRule, countOf, reckon -/
theorem tl_same {J N : Nat → Nat → Int32} {x : Int32} {rule i : Nat} (h : x = a_amt J N rule i ∨ (x ≤ 0 ∧ a_amt J N rule i ≤ 0)) : (x ≤ 0 ↔ a_amt J N rule i ≤ 0) ∧ (¬ x ≤ 0 → x = a_amt J N rule i) := by
  rcases h with h | ⟨h1, h2⟩
  · rw [h]; exact ⟨Iff.rfl, fun _ => rfl⟩
  · exact ⟨⟨fun _ => h2, fun _ => h1⟩, fun w => absurd h1 w⟩
/-- the faults so far, as the class keeps them -/
def WF (J1 N1 : Nat → Nat → Int32) (L : zk_F3) : Prop := J1 18 3 = nI L.length ∧ FTC N1 L
def sp_X3_tellRule (E : zk_E) : zk_Sp zk_S := fun av σ sz P PX => match av with
  | [.ref a, .ref p, .ref w, .int q] => a = zk_ad E 18 ∧ p = zk_ad E 1 ∧ w = zk_ad E 7 ∧ ∃ J N fl r, MI J N ∧ XR E sz σ J N fl ∧ CC J N σ.2.1 ∧ r < 10 ∧ q = nI r ∧ WF σ.1 σ.2.1 (a_fl J N r) ∧ ∀ J2 N2, (∀ o k, ¬ (o = 18 ∧ k = 3) → J2 o k = σ.1 o k) → (∀ o, ¬ (19 ≤ o ∧ o ≤ 21) → N2 o = σ.2.1 o) → WF J2 N2 (a_fl J N (r + 1)) → P none (J2, N2, σ.2.2) sz
  | _ => False
theorem spe_X3_tellRule (E : zk_E) (a : Nat) (p : Nat) (w : Nat) (q : Int32) (σ : zk_S) (sz : Nat) (P : zk_P zk_S) (PX : zk_X zk_S) : sp_X3_tellRule E [.ref a, .ref p, .ref w, .int q] σ sz P PX = (a = zk_ad E 18 ∧ p = zk_ad E 1 ∧ w = zk_ad E 7 ∧ ∃ J N fl r, MI J N ∧ XR E sz σ J N fl ∧ CC J N σ.2.1 ∧ r < 10 ∧ q = nI r ∧ WF σ.1 σ.2.1 (a_fl J N r) ∧ ∀ J2 N2, (∀ o k, ¬ (o = 18 ∧ k = 3) → J2 o k = σ.1 o k) → (∀ o, ¬ (19 ≤ o ∧ o ≤ 21) → N2 o = σ.2.1 o) → WF J2 N2 (a_fl J N (r + 1)) → P none (J2, N2, σ.2.2) sz) := propext Iff.rfl
def C_X3_tellRule (E : zk_E) : zk_Cl zk_S := zk_lka [(48, 3, 0, 0, sp_X3_excessOfDoor E), (51, 4, 0, 0, zk_rv (zk_VT E) (fun ci => Nat.beq ci 2) (sp_X3_tell E)), (84, 4, 0, 0, zk_rv (zk_VT E) (fun ci => Nat.beq ci 2) (sp_X3_tell E)), (99, 4, 0, 0, sp_X3_excessOfRoom E), (102, 4, 0, 0, zk_rv (zk_VT E) (fun ci => Nat.beq ci 2) (sp_X3_tell E))]
theorem r_X3_tellRule (E : zk_E) (P : zk_P zk_S) (PX : zk_X zk_S) (K : Nat → zk_L → List Value → zk_W zk_S → Prop) : (∀ (n : Nat) (l0 l1 l2 l4 l5 : Option Value) (y3 : Int32) (r : List Value) (σ : zk_S) (sz k c : Nat), zk_run E (zk_VT E) M_X3_tellRule (C_X3_tellRule E) P PX K (n + 1) 0 [l0, l1, l2, some (.int y3), l4, l5] r (σ, sz, k, c) = zk_run E (zk_VT E) M_X3_tellRule (C_X3_tellRule E) P PX K n 1 [l0, l1, l2, some (.int y3), l4, l5] (.int y3 :: r) (σ, sz, k, c)) ∧
  (∀ (n : Nat) (l0 l1 l2 l3 l4 l5 : Option Value)  (r : List Value) (σ : zk_S) (sz k c : Nat), zk_run E (zk_VT E) M_X3_tellRule (C_X3_tellRule E) P PX K (n + 1) 1 [l0, l1, l2, l3, l4, l5] r (σ, sz, k, c) = zk_run E (zk_VT E) M_X3_tellRule (C_X3_tellRule E) P PX K n 2 [l0, l1, l2, l3, l4, l5] (.int (2) :: r) (σ, sz, k, c)) ∧
  (∀ (n : Nat) (l0 l1 l2 l3 l4 l5 : Option Value) (x y : Int32) (r : List Value) (σ : zk_S) (sz k c : Nat), zk_run E (zk_VT E) M_X3_tellRule (C_X3_tellRule E) P PX K (n + 1) 2 [l0, l1, l2, l3, l4, l5] (.int y :: .int x :: r) (σ, sz, k, c) = ((¬ x = y → zk_run E (zk_VT E) M_X3_tellRule (C_X3_tellRule E) P PX K n 10 [l0, l1, l2, l3, l4, l5] r (σ, sz, k, c)) ∧ (¬ (¬ x = y) → zk_run E (zk_VT E) M_X3_tellRule (C_X3_tellRule E) P PX K n 5 [l0, l1, l2, l3, l4, l5] r (σ, sz, k, c)))) ∧
  (∀ (n : Nat) (l0 l1 l2 l3 l4 l5 : Option Value)  (r : List Value) (σ : zk_S) (sz k c : Nat), zk_run E (zk_VT E) M_X3_tellRule (C_X3_tellRule E) P PX K (n + 1) 5 [l0, l1, l2, l3, l4, l5] r (σ, sz, k, c) = zk_run E (zk_VT E) M_X3_tellRule (C_X3_tellRule E) P PX K n 7 [l0, l1, l2, l3, l4, l5] (.int (40) :: r) (σ, sz, k, c)) ∧
  (∀ (n : Nat) (l0 l1 l2 l3 l4 l5 : Option Value)  (r : List Value) (σ : zk_S) (sz k c : Nat), zk_run E (zk_VT E) M_X3_tellRule (C_X3_tellRule E) P PX K (n + 1) 7 [l0, l1, l2, l3, l4, l5] r (σ, sz, k, c) = zk_run E (zk_VT E) M_X3_tellRule (C_X3_tellRule E) P PX K n 23 [l0, l1, l2, l3, l4, l5] r (σ, sz, k, c)) ∧
  (∀ (n : Nat) (l0 l1 l2 l4 l5 : Option Value) (y3 : Int32) (r : List Value) (σ : zk_S) (sz k c : Nat), zk_run E (zk_VT E) M_X3_tellRule (C_X3_tellRule E) P PX K (n + 1) 10 [l0, l1, l2, some (.int y3), l4, l5] r (σ, sz, k, c) = zk_run E (zk_VT E) M_X3_tellRule (C_X3_tellRule E) P PX K n 11 [l0, l1, l2, some (.int y3), l4, l5] (.int y3 :: r) (σ, sz, k, c)) ∧
  (∀ (n : Nat) (l0 l1 l2 l3 l4 l5 : Option Value)  (r : List Value) (σ : zk_S) (sz k c : Nat), zk_run E (zk_VT E) M_X3_tellRule (C_X3_tellRule E) P PX K (n + 1) 11 [l0, l1, l2, l3, l4, l5] r (σ, sz, k, c) = zk_run E (zk_VT E) M_X3_tellRule (C_X3_tellRule E) P PX K n 13 [l0, l1, l2, l3, l4, l5] (.int (8) :: r) (σ, sz, k, c)) ∧
  (∀ (n : Nat) (l0 l1 l2 l3 l4 l5 : Option Value) (x y : Int32) (r : List Value) (σ : zk_S) (sz k c : Nat), zk_run E (zk_VT E) M_X3_tellRule (C_X3_tellRule E) P PX K (n + 1) 13 [l0, l1, l2, l3, l4, l5] (.int y :: .int x :: r) (σ, sz, k, c) = ((¬ x = y → zk_run E (zk_VT E) M_X3_tellRule (C_X3_tellRule E) P PX K n 21 [l0, l1, l2, l3, l4, l5] r (σ, sz, k, c)) ∧ (¬ (¬ x = y) → zk_run E (zk_VT E) M_X3_tellRule (C_X3_tellRule E) P PX K n 16 [l0, l1, l2, l3, l4, l5] r (σ, sz, k, c)))) ∧
  (∀ (n : Nat) (l0 l1 l2 l3 l4 l5 : Option Value)  (r : List Value) (σ : zk_S) (sz k c : Nat), zk_run E (zk_VT E) M_X3_tellRule (C_X3_tellRule E) P PX K (n + 1) 16 [l0, l1, l2, l3, l4, l5] r (σ, sz, k, c) = zk_run E (zk_VT E) M_X3_tellRule (C_X3_tellRule E) P PX K n 18 [l0, l1, l2, l3, l4, l5] (.int (10) :: r) (σ, sz, k, c)) ∧
  (∀ (n : Nat) (l0 l1 l2 l3 l4 l5 : Option Value)  (r : List Value) (σ : zk_S) (sz k c : Nat), zk_run E (zk_VT E) M_X3_tellRule (C_X3_tellRule E) P PX K (n + 1) 18 [l0, l1, l2, l3, l4, l5] r (σ, sz, k, c) = zk_run E (zk_VT E) M_X3_tellRule (C_X3_tellRule E) P PX K n 23 [l0, l1, l2, l3, l4, l5] r (σ, sz, k, c)) ∧
  (∀ (n : Nat) (l0 l1 l2 l3 l4 l5 : Option Value)  (r : List Value) (σ : zk_S) (sz k c : Nat), zk_run E (zk_VT E) M_X3_tellRule (C_X3_tellRule E) P PX K (n + 1) 21 [l0, l1, l2, l3, l4, l5] r (σ, sz, k, c) = zk_run E (zk_VT E) M_X3_tellRule (C_X3_tellRule E) P PX K n 23 [l0, l1, l2, l3, l4, l5] (.int (20) :: r) (σ, sz, k, c)) ∧
  (∀ (n : Nat) (l0 l1 l2 l3 l4 l5 : Option Value) (x : Int32) (r : List Value) (σ : zk_S) (sz k c : Nat), zk_run E (zk_VT E) M_X3_tellRule (C_X3_tellRule E) P PX K (n + 1) 23 [l0, l1, l2, l3, l4, l5] (.int x :: r) (σ, sz, k, c) = zk_run E (zk_VT E) M_X3_tellRule (C_X3_tellRule E) P PX K n 25 [l0, l1, l2, zk_kl l3, some (.int x), l5] r (σ, sz, k, c)) ∧
  (∀ (n : Nat) (l0 l1 l2 l3 l4 l5 : Option Value)  (r : List Value) (σ : zk_S) (sz k c : Nat), zk_run E (zk_VT E) M_X3_tellRule (C_X3_tellRule E) P PX K (n + 1) 25 [l0, l1, l2, l3, l4, l5] r (σ, sz, k, c) = zk_run E (zk_VT E) M_X3_tellRule (C_X3_tellRule E) P PX K n 26 [l0, l1, l2, l3, l4, l5] (.int (0) :: r) (σ, sz, k, c)) ∧
  (∀ (n : Nat) (l0 l1 l2 l3 l4 l5 : Option Value) (x : Int32) (r : List Value) (σ : zk_S) (sz k c : Nat), zk_run E (zk_VT E) M_X3_tellRule (C_X3_tellRule E) P PX K (n + 1) 26 [l0, l1, l2, l3, l4, l5] (.int x :: r) (σ, sz, k, c) = zk_run E (zk_VT E) M_X3_tellRule (C_X3_tellRule E) P PX K n 28 [l0, l1, l2, l3, zk_kl l4, some (.int x)] r (σ, sz, k, c)) ∧
  (∀ (n : Nat) (l0 l1 l2 l3 l4 l5 : Option Value)  (r : List Value) (σ : zk_S) (sz k c : Nat), zk_run E (zk_VT E) M_X3_tellRule (C_X3_tellRule E) P PX K (n + 1) 28 [l0, l1, l2, l3, l4, l5] r (σ, sz, k, c) = K 28 [l0, l1, l2, l3, l4, l5] r (σ, sz, k, c)) ∧
  (∀ (n : Nat) (l0 l1 l2 l3 l5 : Option Value) (y4 : Int32) (r : List Value) (σ : zk_S) (sz k c : Nat), zk_run E (zk_VT E) M_X3_tellRule (C_X3_tellRule E) P PX K (n + 1) 30 [l0, l1, l2, l3, some (.int y4), l5] r (σ, sz, k, c) = zk_run E (zk_VT E) M_X3_tellRule (C_X3_tellRule E) P PX K n 32 [l0, l1, l2, l3, some (.int y4), l5] (.int y4 :: r) (σ, sz, k, c)) ∧
  (∀ (n : Nat) (l0 l1 l2 l3 l4 l5 : Option Value) (x y : Int32) (r : List Value) (σ : zk_S) (sz k c : Nat), zk_run E (zk_VT E) M_X3_tellRule (C_X3_tellRule E) P PX K (n + 1) 32 [l0, l1, l2, l3, l4, l5] (.int y :: .int x :: r) (σ, sz, k, c) = ((y ≤ x → zk_run E (zk_VT E) M_X3_tellRule (C_X3_tellRule E) P PX K n 111 [l0, l1, l2, l3, l4, l5] r (σ, sz, k, c)) ∧ (¬ (y ≤ x) → zk_run E (zk_VT E) M_X3_tellRule (C_X3_tellRule E) P PX K n 35 [l0, l1, l2, l3, l4, l5] r (σ, sz, k, c)))) ∧
  (∀ (n : Nat) (l0 l1 l2 l4 l5 : Option Value) (y3 : Int32) (r : List Value) (σ : zk_S) (sz k c : Nat), zk_run E (zk_VT E) M_X3_tellRule (C_X3_tellRule E) P PX K (n + 1) 35 [l0, l1, l2, some (.int y3), l4, l5] r (σ, sz, k, c) = zk_run E (zk_VT E) M_X3_tellRule (C_X3_tellRule E) P PX K n 36 [l0, l1, l2, some (.int y3), l4, l5] (.int y3 :: r) (σ, sz, k, c)) ∧
  (∀ (n : Nat) (l0 l1 l2 l3 l4 l5 : Option Value)  (r : List Value) (σ : zk_S) (sz k c : Nat), zk_run E (zk_VT E) M_X3_tellRule (C_X3_tellRule E) P PX K (n + 1) 36 [l0, l1, l2, l3, l4, l5] r (σ, sz, k, c) = zk_run E (zk_VT E) M_X3_tellRule (C_X3_tellRule E) P PX K n 37 [l0, l1, l2, l3, l4, l5] (.int (2) :: r) (σ, sz, k, c)) ∧
  (∀ (n : Nat) (l0 l1 l2 l3 l4 l5 : Option Value) (x y : Int32) (r : List Value) (σ : zk_S) (sz k c : Nat), zk_run E (zk_VT E) M_X3_tellRule (C_X3_tellRule E) P PX K (n + 1) 37 [l0, l1, l2, l3, l4, l5] (.int y :: .int x :: r) (σ, sz, k, c) = ((¬ x = y → zk_run E (zk_VT E) M_X3_tellRule (C_X3_tellRule E) P PX K n 57 [l0, l1, l2, l3, l4, l5] r (σ, sz, k, c)) ∧ (¬ (¬ x = y) → zk_run E (zk_VT E) M_X3_tellRule (C_X3_tellRule E) P PX K n 40 [l0, l1, l2, l3, l4, l5] r (σ, sz, k, c)))) ∧
  (∀ (n : Nat) (l1 l2 l3 l4 l5 : Option Value) (y0 : Value) (r : List Value) (σ : zk_S) (sz k c : Nat), zk_run E (zk_VT E) M_X3_tellRule (C_X3_tellRule E) P PX K (n + 1) 40 [some y0, l1, l2, l3, l4, l5] r (σ, sz, k, c) = (zk_isr y0 ∧ zk_run E (zk_VT E) M_X3_tellRule (C_X3_tellRule E) P PX K n 41 [some y0, l1, l2, l3, l4, l5] (y0 :: r) (σ, sz, k, c))) ∧
  (∀ (n : Nat) (l0 l1 l2 l4 l5 : Option Value) (y3 : Int32) (r : List Value) (σ : zk_S) (sz k c : Nat), zk_run E (zk_VT E) M_X3_tellRule (C_X3_tellRule E) P PX K (n + 1) 41 [l0, l1, l2, some (.int y3), l4, l5] r (σ, sz, k, c) = zk_run E (zk_VT E) M_X3_tellRule (C_X3_tellRule E) P PX K n 42 [l0, l1, l2, some (.int y3), l4, l5] (.int y3 :: r) (σ, sz, k, c)) ∧
  (∀ (n : Nat) (l0 l1 l2 l3 l4 : Option Value) (y5 : Int32) (r : List Value) (σ : zk_S) (sz k c : Nat), zk_run E (zk_VT E) M_X3_tellRule (C_X3_tellRule E) P PX K (n + 1) 42 [l0, l1, l2, l3, l4, some (.int y5)] r (σ, sz, k, c) = zk_run E (zk_VT E) M_X3_tellRule (C_X3_tellRule E) P PX K n 44 [l0, l1, l2, l3, l4, some (.int y5)] (.int y5 :: r) (σ, sz, k, c)) ∧
  (∀ (n : Nat) (l0 l2 l3 l4 l5 : Option Value) (y1 : Value) (r : List Value) (σ : zk_S) (sz k c : Nat), zk_run E (zk_VT E) M_X3_tellRule (C_X3_tellRule E) P PX K (n + 1) 44 [l0, some y1, l2, l3, l4, l5] r (σ, sz, k, c) = (zk_isr y1 ∧ zk_run E (zk_VT E) M_X3_tellRule (C_X3_tellRule E) P PX K n 45 [l0, some y1, l2, l3, l4, l5] (y1 :: r) (σ, sz, k, c))) ∧
  (∀ (n : Nat) (l0 l1 l3 l4 l5 : Option Value) (y2 : Value) (r : List Value) (σ : zk_S) (sz k c : Nat), zk_run E (zk_VT E) M_X3_tellRule (C_X3_tellRule E) P PX K (n + 1) 45 [l0, l1, some y2, l3, l4, l5] r (σ, sz, k, c) = (zk_isr y2 ∧ zk_run E (zk_VT E) M_X3_tellRule (C_X3_tellRule E) P PX K n 46 [l0, l1, some y2, l3, l4, l5] (y2 :: r) (σ, sz, k, c))) ∧
  (∀ (n : Nat) (l0 l1 l2 l3 l4 : Option Value) (y5 : Int32) (r : List Value) (σ : zk_S) (sz k c : Nat), zk_run E (zk_VT E) M_X3_tellRule (C_X3_tellRule E) P PX K (n + 1) 46 [l0, l1, l2, l3, l4, some (.int y5)] r (σ, sz, k, c) = zk_run E (zk_VT E) M_X3_tellRule (C_X3_tellRule E) P PX K n 48 [l0, l1, l2, l3, l4, some (.int y5)] (.int y5 :: r) (σ, sz, k, c)) ∧
  (∀ (n : Nat) (l0 l1 l2 l3 l4 l5 : Option Value) (v0 : Value) (v1 : Value) (v2 : Value) (v3 : Value) (v4 : Value) (v5 : Value)  (σ : zk_S) (sz k c : Nat), zk_run E (zk_VT E) M_X3_tellRule (C_X3_tellRule E) P PX K (n + 1) 48 [l0, l1, l2, l3, l4, l5] [v0, v1, v2, v3, v4, v5] (σ, sz, k, c) = (k + 0 ≤ 0 ∧ c + 0 ≤ 0 ∧ (sp_X3_excessOfDoor E) [v2, v1, v0] σ sz (fun v s2 z2 => zk_run E (zk_VT E) M_X3_tellRule (C_X3_tellRule E) P PX K n 51 [l0, l1, l2, l3, l4, l5] (zk_psh v [v3, v4, v5]) (s2, z2, k + 0, c + 0)) (fun X s2 z2 => PX X s2 z2))) ∧
  (∀ (n : Nat) (l0 l1 l2 l3 l4 l5 : Option Value) (v0 : Value) (v1 : Value) (v2 : Value) (v3 : Value)  (σ : zk_S) (sz k c : Nat), zk_run E (zk_VT E) M_X3_tellRule (C_X3_tellRule E) P PX K (n + 1) 51 [l0, l1, l2, l3, l4, l5] [v0, v1, v2, v3] (σ, sz, k, c) = (k + 0 ≤ 0 ∧ c + 0 ≤ 0 ∧ (zk_rv (zk_VT E) (fun ci => Nat.beq ci 2) (sp_X3_tell E)) [v3, v2, v1, v0] σ sz (fun v s2 z2 => zk_run E (zk_VT E) M_X3_tellRule (C_X3_tellRule E) P PX K n 54 [l0, l1, l2, l3, l4, l5] (zk_psh v []) (s2, z2, k + 0, c + 0)) (fun X s2 z2 => PX X s2 z2))) ∧
  (∀ (n : Nat) (l0 l1 l2 l3 l4 l5 : Option Value)  (r : List Value) (σ : zk_S) (sz k c : Nat), zk_run E (zk_VT E) M_X3_tellRule (C_X3_tellRule E) P PX K (n + 1) 54 [l0, l1, l2, l3, l4, l5] r (σ, sz, k, c) = zk_run E (zk_VT E) M_X3_tellRule (C_X3_tellRule E) P PX K n 105 [l0, l1, l2, l3, l4, l5] r (σ, sz, k, c)) ∧
  (∀ (n : Nat) (l0 l1 l2 l4 l5 : Option Value) (y3 : Int32) (r : List Value) (σ : zk_S) (sz k c : Nat), zk_run E (zk_VT E) M_X3_tellRule (C_X3_tellRule E) P PX K (n + 1) 57 [l0, l1, l2, some (.int y3), l4, l5] r (σ, sz, k, c) = zk_run E (zk_VT E) M_X3_tellRule (C_X3_tellRule E) P PX K n 58 [l0, l1, l2, some (.int y3), l4, l5] (.int y3 :: r) (σ, sz, k, c)) ∧
  (∀ (n : Nat) (l0 l1 l2 l3 l4 l5 : Option Value)  (r : List Value) (σ : zk_S) (sz k c : Nat), zk_run E (zk_VT E) M_X3_tellRule (C_X3_tellRule E) P PX K (n + 1) 58 [l0, l1, l2, l3, l4, l5] r (σ, sz, k, c) = zk_run E (zk_VT E) M_X3_tellRule (C_X3_tellRule E) P PX K n 60 [l0, l1, l2, l3, l4, l5] (.int (8) :: r) (σ, sz, k, c)) ∧
  (∀ (n : Nat) (l0 l1 l2 l3 l4 l5 : Option Value) (x y : Int32) (r : List Value) (σ : zk_S) (sz k c : Nat), zk_run E (zk_VT E) M_X3_tellRule (C_X3_tellRule E) P PX K (n + 1) 60 [l0, l1, l2, l3, l4, l5] (.int y :: .int x :: r) (σ, sz, k, c) = ((¬ x = y → zk_run E (zk_VT E) M_X3_tellRule (C_X3_tellRule E) P PX K n 90 [l0, l1, l2, l3, l4, l5] r (σ, sz, k, c)) ∧ (¬ (¬ x = y) → zk_run E (zk_VT E) M_X3_tellRule (C_X3_tellRule E) P PX K n 63 [l0, l1, l2, l3, l4, l5] r (σ, sz, k, c)))) ∧
  (∀ (n : Nat) (l1 l2 l3 l4 l5 : Option Value) (y0 : Value) (r : List Value) (σ : zk_S) (sz k c : Nat), zk_run E (zk_VT E) M_X3_tellRule (C_X3_tellRule E) P PX K (n + 1) 63 [some y0, l1, l2, l3, l4, l5] r (σ, sz, k, c) = (zk_isr y0 ∧ zk_run E (zk_VT E) M_X3_tellRule (C_X3_tellRule E) P PX K n 64 [some y0, l1, l2, l3, l4, l5] (y0 :: r) (σ, sz, k, c))) ∧
  (∀ (n : Nat) (l0 l1 l2 l4 l5 : Option Value) (y3 : Int32) (r : List Value) (σ : zk_S) (sz k c : Nat), zk_run E (zk_VT E) M_X3_tellRule (C_X3_tellRule E) P PX K (n + 1) 64 [l0, l1, l2, some (.int y3), l4, l5] r (σ, sz, k, c) = zk_run E (zk_VT E) M_X3_tellRule (C_X3_tellRule E) P PX K n 65 [l0, l1, l2, some (.int y3), l4, l5] (.int y3 :: r) (σ, sz, k, c)) ∧
  (∀ (n : Nat) (l0 l1 l2 l3 l4 : Option Value) (y5 : Int32) (r : List Value) (σ : zk_S) (sz k c : Nat), zk_run E (zk_VT E) M_X3_tellRule (C_X3_tellRule E) P PX K (n + 1) 65 [l0, l1, l2, l3, l4, some (.int y5)] r (σ, sz, k, c) = zk_run E (zk_VT E) M_X3_tellRule (C_X3_tellRule E) P PX K n 67 [l0, l1, l2, l3, l4, some (.int y5)] (.int y5 :: r) (σ, sz, k, c)) ∧
  (∀ (n : Nat) (l0 l1 l3 l4 l5 : Option Value) (y2 : Value) (r : List Value) (σ : zk_S) (sz k c : Nat), zk_run E (zk_VT E) M_X3_tellRule (C_X3_tellRule E) P PX K (n + 1) 67 [l0, l1, some y2, l3, l4, l5] r (σ, sz, k, c) = (zk_isr y2 ∧ zk_run E (zk_VT E) M_X3_tellRule (C_X3_tellRule E) P PX K n 68 [l0, l1, some y2, l3, l4, l5] (y2 :: r) (σ, sz, k, c))) ∧
  (∀ (n : Nat) (l0 l1 l2 l3 l4 l5 : Option Value) (a : Nat) (r : List Value) (σ : zk_S) (sz k c : Nat), zk_run E (zk_VT E) M_X3_tellRule (C_X3_tellRule E) P PX K (n + 1) 68 [l0, l1, l2, l3, l4, l5] (.ref a :: r) (σ, sz, k, c) = zk_fld (zk_view E σ a) [7] 2 (fun v => zk_run E (zk_VT E) M_X3_tellRule (C_X3_tellRule E) P PX K n 71 [l0, l1, l2, l3, l4, l5] (v :: r) (σ, sz, k, c))) ∧
  (∀ (n : Nat) (l0 l1 l2 l3 l4 l5 : Option Value)  (r : List Value) (σ : zk_S) (sz k c : Nat), zk_run E (zk_VT E) M_X3_tellRule (C_X3_tellRule E) P PX K (n + 1) 71 [l0, l1, l2, l3, l4, l5] r (σ, sz, k, c) = zk_run E (zk_VT E) M_X3_tellRule (C_X3_tellRule E) P PX K n 73 [l0, l1, l2, l3, l4, l5] (.int (40) :: r) (σ, sz, k, c)) ∧
  (∀ (n : Nat) (l0 l1 l2 l3 l4 : Option Value) (y5 : Int32) (r : List Value) (σ : zk_S) (sz k c : Nat), zk_run E (zk_VT E) M_X3_tellRule (C_X3_tellRule E) P PX K (n + 1) 73 [l0, l1, l2, l3, l4, some (.int y5)] r (σ, sz, k, c) = zk_run E (zk_VT E) M_X3_tellRule (C_X3_tellRule E) P PX K n 75 [l0, l1, l2, l3, l4, some (.int y5)] (.int y5 :: r) (σ, sz, k, c)) ∧
  (∀ (n : Nat) (l0 l1 l2 l3 l4 l5 : Option Value) (x y : Int32) (r : List Value) (σ : zk_S) (sz k c : Nat), zk_run E (zk_VT E) M_X3_tellRule (C_X3_tellRule E) P PX K (n + 1) 75 [l0, l1, l2, l3, l4, l5] (.int y :: .int x :: r) (σ, sz, k, c) = zk_run E (zk_VT E) M_X3_tellRule (C_X3_tellRule E) P PX K n 76 [l0, l1, l2, l3, l4, l5] (.int (x + y) :: r) (σ, sz, k, c)) := ⟨by intros; rfl, by intros; rfl, by intros; rfl, by intros; rfl, by intros; rfl, by intros; rfl, by intros; rfl, by intros; rfl, by intros; rfl, by intros; rfl, by intros; rfl, by intros; rfl, by intros; rfl, by intros; rfl, by intros; rfl, by intros; rfl, by intros; rfl, by intros; rfl, by intros; rfl, by intros; rfl, by intros; rfl, by intros; rfl, by intros; rfl, by intros; rfl, by intros; rfl, by intros; rfl, by intros; rfl, by intros; rfl, by intros; rfl, by intros; rfl, by intros; rfl, by intros; rfl, by intros; rfl, by intros; rfl, by intros; rfl, by intros; rfl, by intros; rfl, by intros; rfl, by intros; rfl, by intros; rfl⟩
theorem r_X3_tellRule_1 (E : zk_E) (P : zk_P zk_S) (PX : zk_X zk_S) (K : Nat → zk_L → List Value → zk_W zk_S → Prop) : (∀ (n : Nat) (l0 l1 l2 l3 l4 l5 : Option Value) (a : Nat) (i : Int32) (r : List Value) (σ : zk_S) (sz k c : Nat), zk_run E (zk_VT E) M_X3_tellRule (C_X3_tellRule E) P PX K (n + 1) 76 [l0, l1, l2, l3, l4, l5] (.int i :: .ref a :: r) (σ, sz, k, c) = zk_ild (zk_view E σ a) (zk_ar E 0) i (fun x => zk_run E (zk_VT E) M_X3_tellRule (C_X3_tellRule E) P PX K n 77 [l0, l1, l2, l3, l4, l5] (.int x :: r) (σ, sz, k, c))) ∧
  (∀ (n : Nat) (l0 l2 l3 l4 l5 : Option Value) (y1 : Value) (r : List Value) (σ : zk_S) (sz k c : Nat), zk_run E (zk_VT E) M_X3_tellRule (C_X3_tellRule E) P PX K (n + 1) 77 [l0, some y1, l2, l3, l4, l5] r (σ, sz, k, c) = (zk_isr y1 ∧ zk_run E (zk_VT E) M_X3_tellRule (C_X3_tellRule E) P PX K n 78 [l0, some y1, l2, l3, l4, l5] (y1 :: r) (σ, sz, k, c))) ∧
  (∀ (n : Nat) (l0 l1 l2 l3 l4 l5 : Option Value) (a : Nat) (r : List Value) (σ : zk_S) (sz k c : Nat), zk_run E (zk_VT E) M_X3_tellRule (C_X3_tellRule E) P PX K (n + 1) 78 [l0, l1, l2, l3, l4, l5] (.ref a :: r) (σ, sz, k, c) = zk_fld (zk_view E σ a) [4] 4 (fun v => zk_run E (zk_VT E) M_X3_tellRule (C_X3_tellRule E) P PX K n 81 [l0, l1, l2, l3, l4, l5] (v :: r) (σ, sz, k, c))) ∧
  (∀ (n : Nat) (l0 l1 l2 l4 l5 : Option Value) (y3 : Int32) (r : List Value) (σ : zk_S) (sz k c : Nat), zk_run E (zk_VT E) M_X3_tellRule (C_X3_tellRule E) P PX K (n + 1) 81 [l0, l1, l2, some (.int y3), l4, l5] r (σ, sz, k, c) = zk_run E (zk_VT E) M_X3_tellRule (C_X3_tellRule E) P PX K n 82 [l0, l1, l2, some (.int y3), l4, l5] (.int y3 :: r) (σ, sz, k, c)) ∧
  (∀ (n : Nat) (l0 l1 l2 l3 l4 l5 : Option Value) (a : Nat) (i : Int32) (r : List Value) (σ : zk_S) (sz k c : Nat), zk_run E (zk_VT E) M_X3_tellRule (C_X3_tellRule E) P PX K (n + 1) 82 [l0, l1, l2, l3, l4, l5] (.int i :: .ref a :: r) (σ, sz, k, c) = zk_ild (zk_view E σ a) (zk_ar E 0) i (fun x => zk_run E (zk_VT E) M_X3_tellRule (C_X3_tellRule E) P PX K n 83 [l0, l1, l2, l3, l4, l5] (.int x :: r) (σ, sz, k, c))) ∧
  (∀ (n : Nat) (l0 l1 l2 l3 l4 l5 : Option Value) (x y : Int32) (r : List Value) (σ : zk_S) (sz k c : Nat), zk_run E (zk_VT E) M_X3_tellRule (C_X3_tellRule E) P PX K (n + 1) 83 [l0, l1, l2, l3, l4, l5] (.int y :: .int x :: r) (σ, sz, k, c) = zk_run E (zk_VT E) M_X3_tellRule (C_X3_tellRule E) P PX K n 84 [l0, l1, l2, l3, l4, l5] (.int (x - y) :: r) (σ, sz, k, c)) ∧
  (∀ (n : Nat) (l0 l1 l2 l3 l4 l5 : Option Value) (v0 : Value) (v1 : Value) (v2 : Value) (v3 : Value)  (σ : zk_S) (sz k c : Nat), zk_run E (zk_VT E) M_X3_tellRule (C_X3_tellRule E) P PX K (n + 1) 84 [l0, l1, l2, l3, l4, l5] [v0, v1, v2, v3] (σ, sz, k, c) = (k + 0 ≤ 0 ∧ c + 0 ≤ 0 ∧ (zk_rv (zk_VT E) (fun ci => Nat.beq ci 2) (sp_X3_tell E)) [v3, v2, v1, v0] σ sz (fun v s2 z2 => zk_run E (zk_VT E) M_X3_tellRule (C_X3_tellRule E) P PX K n 87 [l0, l1, l2, l3, l4, l5] (zk_psh v []) (s2, z2, k + 0, c + 0)) (fun X s2 z2 => PX X s2 z2))) ∧
  (∀ (n : Nat) (l0 l1 l2 l3 l4 l5 : Option Value)  (r : List Value) (σ : zk_S) (sz k c : Nat), zk_run E (zk_VT E) M_X3_tellRule (C_X3_tellRule E) P PX K (n + 1) 87 [l0, l1, l2, l3, l4, l5] r (σ, sz, k, c) = zk_run E (zk_VT E) M_X3_tellRule (C_X3_tellRule E) P PX K n 105 [l0, l1, l2, l3, l4, l5] r (σ, sz, k, c)) ∧
  (∀ (n : Nat) (l1 l2 l3 l4 l5 : Option Value) (y0 : Value) (r : List Value) (σ : zk_S) (sz k c : Nat), zk_run E (zk_VT E) M_X3_tellRule (C_X3_tellRule E) P PX K (n + 1) 90 [some y0, l1, l2, l3, l4, l5] r (σ, sz, k, c) = (zk_isr y0 ∧ zk_run E (zk_VT E) M_X3_tellRule (C_X3_tellRule E) P PX K n 91 [some y0, l1, l2, l3, l4, l5] (y0 :: r) (σ, sz, k, c))) ∧
  (∀ (n : Nat) (l0 l1 l2 l4 l5 : Option Value) (y3 : Int32) (r : List Value) (σ : zk_S) (sz k c : Nat), zk_run E (zk_VT E) M_X3_tellRule (C_X3_tellRule E) P PX K (n + 1) 91 [l0, l1, l2, some (.int y3), l4, l5] r (σ, sz, k, c) = zk_run E (zk_VT E) M_X3_tellRule (C_X3_tellRule E) P PX K n 92 [l0, l1, l2, some (.int y3), l4, l5] (.int y3 :: r) (σ, sz, k, c)) ∧
  (∀ (n : Nat) (l0 l1 l2 l3 l4 : Option Value) (y5 : Int32) (r : List Value) (σ : zk_S) (sz k c : Nat), zk_run E (zk_VT E) M_X3_tellRule (C_X3_tellRule E) P PX K (n + 1) 92 [l0, l1, l2, l3, l4, some (.int y5)] r (σ, sz, k, c) = zk_run E (zk_VT E) M_X3_tellRule (C_X3_tellRule E) P PX K n 94 [l0, l1, l2, l3, l4, some (.int y5)] (.int y5 :: r) (σ, sz, k, c)) ∧
  (∀ (n : Nat) (l0 l2 l3 l4 l5 : Option Value) (y1 : Value) (r : List Value) (σ : zk_S) (sz k c : Nat), zk_run E (zk_VT E) M_X3_tellRule (C_X3_tellRule E) P PX K (n + 1) 94 [l0, some y1, l2, l3, l4, l5] r (σ, sz, k, c) = (zk_isr y1 ∧ zk_run E (zk_VT E) M_X3_tellRule (C_X3_tellRule E) P PX K n 95 [l0, some y1, l2, l3, l4, l5] (y1 :: r) (σ, sz, k, c))) ∧
  (∀ (n : Nat) (l0 l1 l3 l4 l5 : Option Value) (y2 : Value) (r : List Value) (σ : zk_S) (sz k c : Nat), zk_run E (zk_VT E) M_X3_tellRule (C_X3_tellRule E) P PX K (n + 1) 95 [l0, l1, some y2, l3, l4, l5] r (σ, sz, k, c) = (zk_isr y2 ∧ zk_run E (zk_VT E) M_X3_tellRule (C_X3_tellRule E) P PX K n 96 [l0, l1, some y2, l3, l4, l5] (y2 :: r) (σ, sz, k, c))) ∧
  (∀ (n : Nat) (l0 l1 l2 l4 l5 : Option Value) (y3 : Int32) (r : List Value) (σ : zk_S) (sz k c : Nat), zk_run E (zk_VT E) M_X3_tellRule (C_X3_tellRule E) P PX K (n + 1) 96 [l0, l1, l2, some (.int y3), l4, l5] r (σ, sz, k, c) = zk_run E (zk_VT E) M_X3_tellRule (C_X3_tellRule E) P PX K n 97 [l0, l1, l2, some (.int y3), l4, l5] (.int y3 :: r) (σ, sz, k, c)) ∧
  (∀ (n : Nat) (l0 l1 l2 l3 l4 : Option Value) (y5 : Int32) (r : List Value) (σ : zk_S) (sz k c : Nat), zk_run E (zk_VT E) M_X3_tellRule (C_X3_tellRule E) P PX K (n + 1) 97 [l0, l1, l2, l3, l4, some (.int y5)] r (σ, sz, k, c) = zk_run E (zk_VT E) M_X3_tellRule (C_X3_tellRule E) P PX K n 99 [l0, l1, l2, l3, l4, some (.int y5)] (.int y5 :: r) (σ, sz, k, c)) ∧
  (∀ (n : Nat) (l0 l1 l2 l3 l4 l5 : Option Value) (v0 : Value) (v1 : Value) (v2 : Value) (v3 : Value) (v4 : Value) (v5 : Value) (v6 : Value)  (σ : zk_S) (sz k c : Nat), zk_run E (zk_VT E) M_X3_tellRule (C_X3_tellRule E) P PX K (n + 1) 99 [l0, l1, l2, l3, l4, l5] [v0, v1, v2, v3, v4, v5, v6] (σ, sz, k, c) = (k + 0 ≤ 0 ∧ c + 0 ≤ 0 ∧ (sp_X3_excessOfRoom E) [v3, v2, v1, v0] σ sz (fun v s2 z2 => zk_run E (zk_VT E) M_X3_tellRule (C_X3_tellRule E) P PX K n 102 [l0, l1, l2, l3, l4, l5] (zk_psh v [v4, v5, v6]) (s2, z2, k + 0, c + 0)) (fun X s2 z2 => PX X s2 z2))) ∧
  (∀ (n : Nat) (l0 l1 l2 l3 l4 l5 : Option Value) (v0 : Value) (v1 : Value) (v2 : Value) (v3 : Value)  (σ : zk_S) (sz k c : Nat), zk_run E (zk_VT E) M_X3_tellRule (C_X3_tellRule E) P PX K (n + 1) 102 [l0, l1, l2, l3, l4, l5] [v0, v1, v2, v3] (σ, sz, k, c) = (k + 0 ≤ 0 ∧ c + 0 ≤ 0 ∧ (zk_rv (zk_VT E) (fun ci => Nat.beq ci 2) (sp_X3_tell E)) [v3, v2, v1, v0] σ sz (fun v s2 z2 => zk_run E (zk_VT E) M_X3_tellRule (C_X3_tellRule E) P PX K n 105 [l0, l1, l2, l3, l4, l5] (zk_psh v []) (s2, z2, k + 0, c + 0)) (fun X s2 z2 => PX X s2 z2))) ∧
  (∀ (n : Nat) (l0 l1 l2 l3 l4 : Option Value) (y5 : Int32) (r : List Value) (σ : zk_S) (sz k c : Nat), zk_run E (zk_VT E) M_X3_tellRule (C_X3_tellRule E) P PX K (n + 1) 105 [l0, l1, l2, l3, l4, some (.int y5)] r (σ, sz, k, c) = zk_run E (zk_VT E) M_X3_tellRule (C_X3_tellRule E) P PX K n 108 [l0, l1, l2, l3, zk_kl l4, some (.int (y5 + 1))] r (σ, sz, k, c)) ∧
  (∀ (n : Nat) (l0 l1 l2 l3 l4 l5 : Option Value)  (r : List Value) (σ : zk_S) (sz k c : Nat), zk_run E (zk_VT E) M_X3_tellRule (C_X3_tellRule E) P PX K (n + 1) 108 [l0, l1, l2, l3, l4, l5] r (σ, sz, k, c) = zk_run E (zk_VT E) M_X3_tellRule (C_X3_tellRule E) P PX K n 28 [l0, l1, l2, l3, l4, l5] r (σ, sz, k, c)) ∧
  (∀ (n : Nat) (l0 l1 l2 l3 l4 l5 : Option Value)   (σ : zk_S) (sz k c : Nat), zk_run E (zk_VT E) M_X3_tellRule (C_X3_tellRule E) P PX K (n + 1) 111 [l0, l1, l2, l3, l4, l5] [] (σ, sz, k, c) = (P none σ sz ∧ k ≤ 0 ∧ c ≤ 0)) ∧
  (∀ (n : Nat) (l0 l1 l2 l3 l4 l5 : Option Value) (r : List Value) (w : zk_W zk_S), zk_go E (zk_VT E) M_X3_tellRule (C_X3_tellRule E) P PX K n 0 [l0, l1, l2, l3, l4, l5] r w = zk_run E (zk_VT E) M_X3_tellRule (C_X3_tellRule E) P PX K (n + 1) 0 [l0, l1, l2, l3, l4, l5] r w) ∧
  (∀ (n : Nat) (l0 l1 l2 l3 l4 : Option Value) (y5 : Int32) (r : List Value) (σ : zk_S) (sz k c : Nat), zk_go E (zk_VT E) M_X3_tellRule (C_X3_tellRule E) P PX K n 28 [l0, l1, l2, l3, l4, some (.int y5)] r (σ, sz, k, c) = zk_run E (zk_VT E) M_X3_tellRule (C_X3_tellRule E) P PX K n 30 [l0, l1, l2, l3, l4, some (.int y5)] (.int y5 :: r) (σ, sz, k, c)) := ⟨by intros; rfl, by intros; rfl, by intros; rfl, by intros; rfl, by intros; rfl, by intros; rfl, by intros; rfl, by intros; rfl, by intros; rfl, by intros; rfl, by intros; rfl, by intros; rfl, by intros; rfl, by intros; rfl, by intros; rfl, by intros; rfl, by intros; rfl, by intros; rfl, by intros; rfl, by intros; rfl, by intros; rfl, by intros; rfl⟩
theorem vc_X3_tellRule (E : zk_E) : zk_VC E (zk_VT E) M_X3_tellRule (C_X3_tellRule E) 6 (sp_X3_tellRule E) := by
  intro av σ sz P PX h
  obtain ⟨J, N, Q, O, U⟩ := σ
  unfold sp_X3_tellRule at h
  split at h
  case h_2 => exact h.elim
  rename_i a0 p w q
  obtain ⟨rfl, h⟩ := h
  refine ⟨Nat.le_of_ble_eq_true rfl, fun G hG => ?_⟩
  change G 0 [some (.ref (zk_ad E 18)), some (.ref p), some (.ref w), some (.int q), none, none] [] ((J, N, Q, O, U), sz, 0, 0)
  try dsimp only at h
  obtain ⟨rfl, rfl, J1, N1, fl, r, hmi, hxr, hcc, hr, rfl, hwf, h⟩ := h
  have h6 : ∀ i, i < 10 → N 6 i = N1 46 i := hxr.1.2.2.2.2
  have inr : vp_in (nI r) 10 := n_in hr (by decide)
  have clr : (nI r).toNatClampNeg = r := n_cl (by omega)
  have e2 : (nI r = 2) = (r = 2) := n_inj (b := 2) (by omega) (by decide)
  have e8 : (nI r = 8) = (r = 8) := n_inj (b := 8) (by omega) (by decide)
  -- keeps: all but the rows of the faults
  have loop : ∀ m i J2 N2 L, i + m = a_num r → (∀ o k, ¬ (o = 18 ∧ k = 3) → J2 o k = J o k) → (∀ o, ¬ (19 ≤ o ∧ o ≤ 21) → N2 o = N o) → L = a_fl J1 N1 r ++ a_told J1 N1 r i → WF J2 N2 L → G 28 [some (.ref (zk_ad E 18)), some (.ref (zk_ad E 1)), some (.ref (zk_ad E 7)), some (.int (nI r)), some (.int (nI (a_num r))), some (.int (nI i))] [] ((J2, N2, Q, O, U), sz, 0, 0) := by
    intro m
    induction m with
    | zero =>
      intro i J2 N2 L hi hJ hN hL hw
      have han := anum_le r
      have c1 : nI (a_num r) ≤ nI i := nI_le (by omega) (by omega)
      have ei : i = a_num r := by omega
      subst ei
      have h2 := h J2 N2 hJ hN (by rw [a_fl, ← hL]; exact hw)
      (refine hG 900 _ _ _ _ ?_; simp only [r_X3_tellRule, r_X3_tellRule_1, c1])
      exact h2
    | succ m ih =>
      intro i J2 N2 L hi hJ hN hL hw
      have han := anum_le r
      have c1 : ¬ nI (a_num r) ≤ nI i := nI_ge (by omega) (by omega)
      have hlen : L.length < 210 := by rw [hL]; exact fl_lt hr (by omega)
      have ht : ∃ n, n < 210 ∧ J2 18 3 = nI n := ⟨_, hlen, hw.1⟩
      have hx2 : XR E sz (J2, N2, Q, O, U) J1 N1 fl := hxr.cn (by funext k; exact hJ 1 k (by omega)) (hN 6 (by omega))
      have hcc2 : CC J1 N1 N2 := hcc.same (fun o h1 h2 => hN o (by omega))
      have skip : a_amt J1 N1 r i ≤ 0 → G 28 [some (.ref (zk_ad E 18)), some (.ref (zk_ad E 1)), some (.ref (zk_ad E 7)), some (.int (nI r)), some (.int (nI (a_num r))), some (.int (nI (i + 1)))] [] ((J2, N2, Q, O, U), sz, 0, 0) := fun z => ih (i + 1) J2 N2 L (by omega) hJ hN (by rw [a_told, a_tl, if_pos z, List.append_nil, hL]) hw
      have add : ¬ a_amt J1 N1 r i ≤ 0 → G 28 [some (.ref (zk_ad E 18)), some (.ref (zk_ad E 1)), some (.ref (zk_ad E 7)), some (.int (nI r)), some (.int (nI (a_num r))), some (.int (nI (i + 1)))] [] ((zk_uj J2 18 3 (J2 18 3 + 1), tlN N2 (J2 18 3).toNatClampNeg (nI r) (nI i) (a_amt J1 N1 r i), Q, O, U), sz, 0, 0) := fun z => by
        have hw1 := hw.1
        refine ih (i + 1) _ _ (L ++ [(nI r, nI i, a_amt J1 N1 r i)]) (by omega) (fun o k hok => ?_) (fun o ho => ?_) (by rw [a_told, a_tl, if_neg z, ← List.append_assoc, ← hL]) ⟨?_, ?_⟩
        · unfold zk_uj; rw [if_neg hok]; exact hJ o k hok
        · unfold tlN zk_un
          rw [if_neg (by omega), if_neg (by omega), if_neg (by omega)]
          exact hN o ho
        · unfold zk_uj
          rw [if_pos ⟨rfl, rfl⟩, hw1, n_succ, List.length_append, List.length_singleton]
        · rw [hw1, n_cl (by omega)]
          exact hw.2.app
      have told : ∀ x, (x = a_amt J1 N1 r i ∨ (x ≤ 0 ∧ a_amt J1 N1 r i ≤ 0)) → (x ≤ 0 → G 28 [some (.ref (zk_ad E 18)), some (.ref (zk_ad E 1)), some (.ref (zk_ad E 7)), some (.int (nI r)), some (.int (nI (a_num r))), some (.int (nI (i + 1)))] [] ((J2, N2, Q, O, U), sz, 0, 0)) ∧ (¬ x ≤ 0 → G 28 [some (.ref (zk_ad E 18)), some (.ref (zk_ad E 1)), some (.ref (zk_ad E 7)), some (.int (nI r)), some (.int (nI (a_num r))), some (.int (nI (i + 1)))] [] ((zk_uj J2 18 3 (J2 18 3 + 1), tlN N2 (J2 18 3).toNatClampNeg (nI r) (nI i) x, Q, O, U), sz, 0, 0)) := fun x hx => by
        obtain ⟨t1, t2⟩ := tl_same hx
        exact ⟨fun z => skip (t1.mp z), fun z => by rw [t2 z]; exact add (fun w => z (t1.mpr w))⟩
      by_cases q2 : r = 2
      · subst q2
        have i40 : i < 40 := by have : a_num 2 = 40 := rfl; omega
        have tt := told _ (Or.inl rfl)
        rw [show nI 2 = 2 from rfl] at tt
        have z2 : nI 2 = 2 := rfl
        (refine hG 900 _ _ _ _ ?_; simp only [r_X3_tellRule, r_X3_tellRule_1, c1, z2, spe_X3_excessOfDoor])
        refine ⟨J1, N1, fl, i, hmi, hx2, hcc2, i40, rfl, ?_⟩
        simp only [r_X3_tellRule, r_X3_tellRule_1, spe_X3_tell, ht, n_succ]
        exact tt
      · by_cases q8 : r = 8
        · subst q8
          have i10 : i < 10 := by have : a_num 8 = 10 := rfl; omega
          have z2 : nI 8 = 8 := rfl
          have e40 : (40 : Int32) + nI i = nI (40 + i) := n_add 40 i
          have in50 : vp_in (nI (40 + i)) 50 := n_in (by omega) (by decide)
          have cl50 : (nI (40 + i)).toNatClampNeg = 40 + i := n_cl (by omega)
          have h10 := hcc2.2.1 (40 + i) (by omega)
          have i8 : vp_in 8 10 := n_in (n := 8) (by decide) (by decide)
          have t8 : (8 : Int32).toNatClampNeg = 8 := rfl
          have h68 : N2 6 8 = N1 46 8 := by rw [hN 6 (by omega)]; exact h6 8 (by decide)
          have c82 : ¬ (8 : Int32) = 2 := by decide
          have tt := told (a_load J1 N1 (40 + i) - N1 46 8) (by
            have ea : a_amt J1 N1 8 i = if i < m_ns J1 ∧ ¬ N1 42 i = -2 then a_load J1 N1 (40 + i) - N1 46 8 else 0 := by unfold a_amt; rw [if_neg (by decide), if_pos rfl]
            by_cases m0 : i < m_ns J1 ∧ ¬ N1 42 i = -2
            · left; rw [ea, if_pos m0]
            · right
              have l0 : a_load J1 N1 (40 + i) = 0 := a_load_0 (by omega) (fun w => by
                rcases w with ⟨k, -⟩ | ⟨-, w⟩
                · omega
                · rw [show 40 + i - 40 = i by omega] at w; exact m0 w)
              obtain ⟨n, n1, n2, n3⟩ := hmi.2.2.2.2.2.1 8 (by decide)
              rw [l0, ea, if_neg m0, n3]
              refine ⟨?_, le00⟩
              have z0 : (0 : Int32).toInt = 0 := rfl
              rw [i32_le, n_subI (by rw [nI_toInt (by omega), z0]; omega) (by rw [nI_toInt (by omega), z0]; omega), nI_toInt (by omega), z0]
              omega)
          rw [show nI 8 = 8 from rfl] at tt
          (refine hG 900 _ _ _ _ ?_; simp only [r_X3_tellRule, r_X3_tellRule_1, c1, z2, c82, e40, in50, cl50, h10, i8, t8, h68, spe_X3_tell, ht, n_succ])
          exact tt
        · have i20 : i < 20 := by have : a_num r = 20 := by unfold a_num; rw [if_neg q2, if_neg q8]
                                  omega
          (refine hG 900 _ _ _ _ ?_; simp only [r_X3_tellRule, r_X3_tellRule_1, c1, e2, e8, q2, q8, spe_X3_excessOfRoom])
          refine ⟨J1, N1, fl, r, i, hmi, hx2, hcc2, hr, q2, q8, rfl, i20, rfl, fun x hx => ?_⟩
          have tt := told x hx
          simp only [r_X3_tellRule, r_X3_tellRule_1, spe_X3_tell, ht, n_succ]
          exact tt
  have l0 := loop (a_num r) 0 J N (a_fl J1 N1 r) (by omega) (fun _ _ _ => rfl) (fun _ _ => rfl) (by rw [a_told, List.append_nil]) hwf
  rw [show nI 0 = 0 from rfl] at l0
  by_cases q2 : r = 2
  · subst q2
    have z2 : nI 2 = 2 := rfl
    rw [show nI (a_num 2) = 40 from rfl, z2] at l0
    (refine hG 900 _ _ _ _ ?_; simp only [r_X3_tellRule, r_X3_tellRule_1, z2])
    exact l0
  · by_cases q8 : r = 8
    · subst q8
      have z2 : nI 8 = 8 := rfl
      have c82 : ¬ (8 : Int32) = 2 := by decide
      rw [show nI (a_num 8) = 10 from rfl, z2] at l0
      (refine hG 900 _ _ _ _ ?_; simp only [r_X3_tellRule, r_X3_tellRule_1, z2, c82])
      exact l0
    · have : a_num r = 20 := by unfold a_num; rw [if_neg q2, if_neg q8]
      rw [this, show nI 20 = 20 from rfl] at l0
      (refine hG 900 _ _ _ _ ?_; simp only [r_X3_tellRule, r_X3_tellRule_1, e2, e8, q2, q8])
      exact l0
theorem ct_X3_tellRule {l : Launch} (hl : l.stackTraces = false) (E : zk_E) : zk_C l E (zk_VT E) yX3_tellRule cX3_tellRule 6 (none) rm_X3_tellRule (sp_X3_tellRule E) := by
  refine zk_meth (M := M_X3_tellRule) (C := C_X3_tellRule E) hl (by decide +kernel) rfl (fun _ _ => rfl) (zk_VT_ok E) MO_X3_tellRule TO_X3_tellRule THo_X3_tellRule ?_ (vc_X3_tellRule E)
  exact fun p e s m args below meth c X pc n mc ms sp2 h => by
    have h2 := zk_lka_mem h
    simp only [List.mem_cons, List.not_mem_nil, or_false, Prod.mk.injEq] at h2
    rcases h2 with ⟨rfl, rfl, rfl, rfl, rfl⟩ | ⟨rfl, rfl, rfl, rfl, rfl⟩ | ⟨rfl, rfl, rfl, rfl, rfl⟩ | ⟨rfl, rfl, rfl, rfl, rfl⟩ | ⟨rfl, rfl, rfl, rfl, rfl⟩
    · exact zk_coS (idx := 21) X (ct_X3_excessOfDoor hl E) (List.forall_mem_cons.mpr ⟨zk_wi 187 (by decide +kernel) rfl, List.forall_mem_cons.mpr ⟨zk_wi 188 (by decide +kernel) rfl, List.forall_mem_cons.mpr ⟨zk_wi 6 (by decide +kernel) rfl, List.forall_mem_cons.mpr ⟨zk_wi 189 (by decide +kernel) rfl, fun _ h => absurd h List.not_mem_nil⟩⟩⟩⟩) (by decide +kernel) ⟨by decide, by decide, by decide +kernel⟩ ⟨by decide, by decide⟩
    · exact zk_coV (idx := 25) X (ct_X3_tell hl E) (List.forall_mem_cons.mpr ⟨zk_wi 190 (by decide +kernel) rfl, List.forall_mem_cons.mpr ⟨zk_wi 191 (by decide +kernel) rfl, List.forall_mem_cons.mpr ⟨zk_wi 192 (by decide +kernel) rfl, List.forall_mem_cons.mpr ⟨zk_wi 6 (by decide +kernel) rfl, List.forall_mem_cons.mpr ⟨zk_wi 193 (by decide +kernel) rfl, fun _ h => absurd h List.not_mem_nil⟩⟩⟩⟩⟩) (fun ci h => by
      have h := Nat.eq_of_beq_eq_true h
      subst h
      exact ⟨_, _, rfl⟩) (by decide +kernel) ⟨by decide, by decide, by decide +kernel⟩ ⟨by decide, by decide⟩
    · exact zk_coV (idx := 25) X (ct_X3_tell hl E) (List.forall_mem_cons.mpr ⟨zk_wi 190 (by decide +kernel) rfl, List.forall_mem_cons.mpr ⟨zk_wi 191 (by decide +kernel) rfl, List.forall_mem_cons.mpr ⟨zk_wi 192 (by decide +kernel) rfl, List.forall_mem_cons.mpr ⟨zk_wi 6 (by decide +kernel) rfl, List.forall_mem_cons.mpr ⟨zk_wi 193 (by decide +kernel) rfl, fun _ h => absurd h List.not_mem_nil⟩⟩⟩⟩⟩) (fun ci h => by
      have h := Nat.eq_of_beq_eq_true h
      subst h
      exact ⟨_, _, rfl⟩) (by decide +kernel) ⟨by decide, by decide, by decide +kernel⟩ ⟨by decide, by decide⟩
    · exact zk_coS (idx := 39) X (ct_X3_excessOfRoom hl E) (List.forall_mem_cons.mpr ⟨zk_wi 194 (by decide +kernel) rfl, List.forall_mem_cons.mpr ⟨zk_wi 195 (by decide +kernel) rfl, List.forall_mem_cons.mpr ⟨zk_wi 6 (by decide +kernel) rfl, List.forall_mem_cons.mpr ⟨zk_wi 196 (by decide +kernel) rfl, fun _ h => absurd h List.not_mem_nil⟩⟩⟩⟩) (by decide +kernel) ⟨by decide, by decide, by decide +kernel⟩ ⟨by decide, by decide⟩
    · exact zk_coV (idx := 25) X (ct_X3_tell hl E) (List.forall_mem_cons.mpr ⟨zk_wi 190 (by decide +kernel) rfl, List.forall_mem_cons.mpr ⟨zk_wi 191 (by decide +kernel) rfl, List.forall_mem_cons.mpr ⟨zk_wi 192 (by decide +kernel) rfl, List.forall_mem_cons.mpr ⟨zk_wi 6 (by decide +kernel) rfl, List.forall_mem_cons.mpr ⟨zk_wi 193 (by decide +kernel) rfl, fun _ h => absurd h List.not_mem_nil⟩⟩⟩⟩⟩) (fun ci h => by
      have h := Nat.eq_of_beq_eq_true h
      subst h
      exact ⟨_, _, rfl⟩) (by decide +kernel) ⟨by decide, by decide, by decide +kernel⟩ ⟨by decide, by decide⟩
def sp_X3_countOf (E : zk_E) : zk_Sp zk_S := fun av σ sz P PX => match av with
  | [.ref a, .int q] => a = zk_ad E 18 ∧ ∃ L : zk_F3, L.length ≤ 210 ∧ WF σ.1 σ.2.1 L ∧ P (some (.int (nI (L.countP (fun p => decide (p.1 = q)))))) σ sz
  | _ => False
theorem spe_X3_countOf (E : zk_E) (a : Nat) (q : Int32) (σ : zk_S) (sz : Nat) (P : zk_P zk_S) (PX : zk_X zk_S) : sp_X3_countOf E [.ref a, .int q] σ sz P PX = (a = zk_ad E 18 ∧ ∃ L : zk_F3, L.length ≤ 210 ∧ WF σ.1 σ.2.1 L ∧ P (some (.int (nI (L.countP (fun p => decide (p.1 = q)))))) σ sz) := propext Iff.rfl
def C_X3_countOf (E : zk_E) : zk_Cl zk_S := zk_lka []
theorem r_X3_countOf (E : zk_E) (P : zk_P zk_S) (PX : zk_X zk_S) (K : Nat → zk_L → List Value → zk_W zk_S → Prop) : (∀ (n : Nat) (l0 l1 l2 l3 : Option Value)  (r : List Value) (σ : zk_S) (sz k c : Nat), zk_run E (zk_VT E) M_X3_countOf (C_X3_countOf E) P PX K (n + 1) 0 [l0, l1, l2, l3] r (σ, sz, k, c) = zk_run E (zk_VT E) M_X3_countOf (C_X3_countOf E) P PX K n 1 [l0, l1, l2, l3] (.int (0) :: r) (σ, sz, k, c)) ∧
  (∀ (n : Nat) (l0 l1 l2 l3 : Option Value) (x : Int32) (r : List Value) (σ : zk_S) (sz k c : Nat), zk_run E (zk_VT E) M_X3_countOf (C_X3_countOf E) P PX K (n + 1) 1 [l0, l1, l2, l3] (.int x :: r) (σ, sz, k, c) = zk_run E (zk_VT E) M_X3_countOf (C_X3_countOf E) P PX K n 2 [l0, zk_kl l1, some (.int x), l3] r (σ, sz, k, c)) ∧
  (∀ (n : Nat) (l0 l1 l2 l3 : Option Value)  (r : List Value) (σ : zk_S) (sz k c : Nat), zk_run E (zk_VT E) M_X3_countOf (C_X3_countOf E) P PX K (n + 1) 2 [l0, l1, l2, l3] r (σ, sz, k, c) = zk_run E (zk_VT E) M_X3_countOf (C_X3_countOf E) P PX K n 3 [l0, l1, l2, l3] (.int (0) :: r) (σ, sz, k, c)) ∧
  (∀ (n : Nat) (l0 l1 l2 l3 : Option Value) (x : Int32) (r : List Value) (σ : zk_S) (sz k c : Nat), zk_run E (zk_VT E) M_X3_countOf (C_X3_countOf E) P PX K (n + 1) 3 [l0, l1, l2, l3] (.int x :: r) (σ, sz, k, c) = zk_run E (zk_VT E) M_X3_countOf (C_X3_countOf E) P PX K n 4 [l0, l1, zk_kl l2, some (.int x)] r (σ, sz, k, c)) ∧
  (∀ (n : Nat) (l0 l1 l2 l3 : Option Value)  (r : List Value) (σ : zk_S) (sz k c : Nat), zk_run E (zk_VT E) M_X3_countOf (C_X3_countOf E) P PX K (n + 1) 4 [l0, l1, l2, l3] r (σ, sz, k, c) = K 4 [l0, l1, l2, l3] r (σ, sz, k, c)) ∧
  (∀ (n : Nat) (l1 l2 l3 : Option Value) (y0 : Value) (r : List Value) (σ : zk_S) (sz k c : Nat), zk_run E (zk_VT E) M_X3_countOf (C_X3_countOf E) P PX K (n + 1) 5 [some y0, l1, l2, l3] r (σ, sz, k, c) = (zk_isr y0 ∧ zk_run E (zk_VT E) M_X3_countOf (C_X3_countOf E) P PX K n 6 [some y0, l1, l2, l3] (y0 :: r) (σ, sz, k, c))) ∧
  (∀ (n : Nat) (l0 l1 l2 l3 : Option Value) (a : Nat) (r : List Value) (σ : zk_S) (sz k c : Nat), zk_run E (zk_VT E) M_X3_countOf (C_X3_countOf E) P PX K (n + 1) 6 [l0, l1, l2, l3] (.ref a :: r) (σ, sz, k, c) = zk_fld (zk_view E σ a) [2] 3 (fun v => zk_run E (zk_VT E) M_X3_countOf (C_X3_countOf E) P PX K n 9 [l0, l1, l2, l3] (v :: r) (σ, sz, k, c))) ∧
  (∀ (n : Nat) (l0 l1 l2 l3 : Option Value) (x y : Int32) (r : List Value) (σ : zk_S) (sz k c : Nat), zk_run E (zk_VT E) M_X3_countOf (C_X3_countOf E) P PX K (n + 1) 9 [l0, l1, l2, l3] (.int y :: .int x :: r) (σ, sz, k, c) = ((y ≤ x → zk_run E (zk_VT E) M_X3_countOf (C_X3_countOf E) P PX K n 31 [l0, l1, l2, l3] r (σ, sz, k, c)) ∧ (¬ (y ≤ x) → zk_run E (zk_VT E) M_X3_countOf (C_X3_countOf E) P PX K n 12 [l0, l1, l2, l3] r (σ, sz, k, c)))) ∧
  (∀ (n : Nat) (l1 l2 l3 : Option Value) (y0 : Value) (r : List Value) (σ : zk_S) (sz k c : Nat), zk_run E (zk_VT E) M_X3_countOf (C_X3_countOf E) P PX K (n + 1) 12 [some y0, l1, l2, l3] r (σ, sz, k, c) = (zk_isr y0 ∧ zk_run E (zk_VT E) M_X3_countOf (C_X3_countOf E) P PX K n 13 [some y0, l1, l2, l3] (y0 :: r) (σ, sz, k, c))) ∧
  (∀ (n : Nat) (l0 l1 l2 l3 : Option Value) (a : Nat) (r : List Value) (σ : zk_S) (sz k c : Nat), zk_run E (zk_VT E) M_X3_countOf (C_X3_countOf E) P PX K (n + 1) 13 [l0, l1, l2, l3] (.ref a :: r) (σ, sz, k, c) = zk_fld (zk_view E σ a) [2] 0 (fun v => zk_run E (zk_VT E) M_X3_countOf (C_X3_countOf E) P PX K n 16 [l0, l1, l2, l3] (v :: r) (σ, sz, k, c))) ∧
  (∀ (n : Nat) (l0 l1 l2 : Option Value) (y3 : Int32) (r : List Value) (σ : zk_S) (sz k c : Nat), zk_run E (zk_VT E) M_X3_countOf (C_X3_countOf E) P PX K (n + 1) 16 [l0, l1, l2, some (.int y3)] r (σ, sz, k, c) = zk_run E (zk_VT E) M_X3_countOf (C_X3_countOf E) P PX K n 17 [l0, l1, l2, some (.int y3)] (.int y3 :: r) (σ, sz, k, c)) ∧
  (∀ (n : Nat) (l0 l1 l2 l3 : Option Value) (a : Nat) (i : Int32) (r : List Value) (σ : zk_S) (sz k c : Nat), zk_run E (zk_VT E) M_X3_countOf (C_X3_countOf E) P PX K (n + 1) 17 [l0, l1, l2, l3] (.int i :: .ref a :: r) (σ, sz, k, c) = zk_ild (zk_view E σ a) (zk_ar E 0) i (fun x => zk_run E (zk_VT E) M_X3_countOf (C_X3_countOf E) P PX K n 18 [l0, l1, l2, l3] (.int x :: r) (σ, sz, k, c))) ∧
  (∀ (n : Nat) (l0 l2 l3 : Option Value) (y1 : Int32) (r : List Value) (σ : zk_S) (sz k c : Nat), zk_run E (zk_VT E) M_X3_countOf (C_X3_countOf E) P PX K (n + 1) 18 [l0, some (.int y1), l2, l3] r (σ, sz, k, c) = zk_run E (zk_VT E) M_X3_countOf (C_X3_countOf E) P PX K n 19 [l0, some (.int y1), l2, l3] (.int y1 :: r) (σ, sz, k, c)) ∧
  (∀ (n : Nat) (l0 l1 l2 l3 : Option Value) (x y : Int32) (r : List Value) (σ : zk_S) (sz k c : Nat), zk_run E (zk_VT E) M_X3_countOf (C_X3_countOf E) P PX K (n + 1) 19 [l0, l1, l2, l3] (.int y :: .int x :: r) (σ, sz, k, c) = ((¬ x = y → zk_run E (zk_VT E) M_X3_countOf (C_X3_countOf E) P PX K n 25 [l0, l1, l2, l3] r (σ, sz, k, c)) ∧ (¬ (¬ x = y) → zk_run E (zk_VT E) M_X3_countOf (C_X3_countOf E) P PX K n 22 [l0, l1, l2, l3] r (σ, sz, k, c)))) ∧
  (∀ (n : Nat) (l0 l1 l3 : Option Value) (y2 : Int32) (r : List Value) (σ : zk_S) (sz k c : Nat), zk_run E (zk_VT E) M_X3_countOf (C_X3_countOf E) P PX K (n + 1) 22 [l0, l1, some (.int y2), l3] r (σ, sz, k, c) = zk_run E (zk_VT E) M_X3_countOf (C_X3_countOf E) P PX K n 25 [l0, zk_kl l1, some (.int (y2 + 1)), l3] r (σ, sz, k, c)) ∧
  (∀ (n : Nat) (l0 l1 l2 : Option Value) (y3 : Int32) (r : List Value) (σ : zk_S) (sz k c : Nat), zk_run E (zk_VT E) M_X3_countOf (C_X3_countOf E) P PX K (n + 1) 25 [l0, l1, l2, some (.int y3)] r (σ, sz, k, c) = zk_run E (zk_VT E) M_X3_countOf (C_X3_countOf E) P PX K n 28 [l0, l1, zk_kl l2, some (.int (y3 + 1))] r (σ, sz, k, c)) ∧
  (∀ (n : Nat) (l0 l1 l2 l3 : Option Value)  (r : List Value) (σ : zk_S) (sz k c : Nat), zk_run E (zk_VT E) M_X3_countOf (C_X3_countOf E) P PX K (n + 1) 28 [l0, l1, l2, l3] r (σ, sz, k, c) = zk_run E (zk_VT E) M_X3_countOf (C_X3_countOf E) P PX K n 4 [l0, l1, l2, l3] r (σ, sz, k, c)) ∧
  (∀ (n : Nat) (l0 l1 l3 : Option Value) (y2 : Int32) (r : List Value) (σ : zk_S) (sz k c : Nat), zk_run E (zk_VT E) M_X3_countOf (C_X3_countOf E) P PX K (n + 1) 31 [l0, l1, some (.int y2), l3] r (σ, sz, k, c) = zk_run E (zk_VT E) M_X3_countOf (C_X3_countOf E) P PX K n 32 [l0, l1, some (.int y2), l3] (.int y2 :: r) (σ, sz, k, c)) ∧
  (∀ (n : Nat) (l0 l1 l2 l3 : Option Value) (x : Int32)  (σ : zk_S) (sz k c : Nat), zk_run E (zk_VT E) M_X3_countOf (C_X3_countOf E) P PX K (n + 1) 32 [l0, l1, l2, l3] [.int x] (σ, sz, k, c) = (zk_nok (some (.int)) x ∧ P (some (.int x)) σ sz ∧ k ≤ 0 ∧ c ≤ 0)) ∧
  (∀ (n : Nat) (l0 l1 l2 l3 : Option Value) (r : List Value) (w : zk_W zk_S), zk_go E (zk_VT E) M_X3_countOf (C_X3_countOf E) P PX K n 0 [l0, l1, l2, l3] r w = zk_run E (zk_VT E) M_X3_countOf (C_X3_countOf E) P PX K (n + 1) 0 [l0, l1, l2, l3] r w) ∧
  (∀ (n : Nat) (l0 l1 l2 : Option Value) (y3 : Int32) (r : List Value) (σ : zk_S) (sz k c : Nat), zk_go E (zk_VT E) M_X3_countOf (C_X3_countOf E) P PX K n 4 [l0, l1, l2, some (.int y3)] r (σ, sz, k, c) = zk_run E (zk_VT E) M_X3_countOf (C_X3_countOf E) P PX K n 5 [l0, l1, l2, some (.int y3)] (.int y3 :: r) (σ, sz, k, c)) := ⟨by intros; rfl, by intros; rfl, by intros; rfl, by intros; rfl, by intros; rfl, by intros; rfl, by intros; rfl, by intros; rfl, by intros; rfl, by intros; rfl, by intros; rfl, by intros; rfl, by intros; rfl, by intros; rfl, by intros; rfl, by intros; rfl, by intros; rfl, by intros; rfl, by intros; rfl, by intros; rfl, by intros; rfl⟩
theorem vc_X3_countOf (E : zk_E) : zk_VC E (zk_VT E) M_X3_countOf (C_X3_countOf E) 4 (sp_X3_countOf E) := by
  intro av σ sz P PX h
  obtain ⟨J, N, Q, O, U⟩ := σ
  unfold sp_X3_countOf at h
  split at h
  case h_2 => exact h.elim
  rename_i a0 q
  obtain ⟨rfl, h⟩ := h
  refine ⟨Nat.le_of_ble_eq_true rfl, fun G hG => ?_⟩
  change G 0 [some (.ref (zk_ad E 18)), some (.int q), none, none] [] ((J, N, Q, O, U), sz, 0, 0)
  try dsimp only at h
  obtain ⟨L, hlen, ⟨hn, hft⟩, h⟩ := h
  have loop : ∀ m k, k + m = L.length → G 4 [some (.ref (zk_ad E 18)), some (.int q), some (.int (nI ((L.take k).countP (fun p => decide (p.1 = q))))), some (.int (nI k))] [] ((J, N, Q, O, U), sz, 0, 0) := by
    intro m
    induction m with
    | zero =>
      intro k hk
      have c1 : nI L.length ≤ nI k := nI_le (by omega) (by omega)
      rw [List.take_of_length_le (show L.length ≤ k by omega)]
      (refine hG 900 _ _ _ _ ?_; simp only [r_X3_countOf, hn, c1])
      exact h
    | succ m ih =>
      intro k hk
      have c1 : ¬ nI L.length ≤ nI k := nI_ge (by omega) (by omega)
      have ih2 := ih (k + 1) (by omega)
      have hin : vp_in (nI k) 210 := n_in (by omega) (by decide)
      have hcl : (nI k).toNatClampNeg = k := n_cl (by omega)
      have hk2 : k < L.length := by omega
      have hat := (hft k hk2).1
      rw [List.take_add_one, List.getElem?_eq_getElem hk2, Option.toList_some, List.countP_append, List.countP_cons, List.countP_nil, Nat.zero_add] at ih2
      generalize L[k] = p at hat ih2
      by_cases c : p.1 = q
      · rw [if_pos (decide_eq_true c)] at ih2
        (refine hG 900 _ _ _ _ ?_; simp only [r_X3_countOf, hn, c1, hin, hcl, hat, c, n_succ])
        exact ih2
      · rw [if_neg (by rw [decide_eq_false c]; decide)] at ih2
        (refine hG 900 _ _ _ _ ?_; simp only [r_X3_countOf, hn, c1, hin, hcl, hat, c, n_succ])
        exact ih2
  have l0 := loop L.length 0 (by omega)
  (refine hG 900 _ _ _ _ ?_; simp only [r_X3_countOf])
  exact l0
theorem ct_X3_countOf {l : Launch} (hl : l.stackTraces = false) (E : zk_E) : zk_C l E (zk_VT E) yX3_countOf cX3_countOf 4 (some (.int)) rm_X3_countOf (sp_X3_countOf E) := by
  refine zk_meth (M := M_X3_countOf) (C := C_X3_countOf E) hl (by decide +kernel) rfl (fun _ _ => rfl) (zk_VT_ok E) MO_X3_countOf TO_X3_countOf THo_X3_countOf ?_ (vc_X3_countOf E)
  exact fun p e s m args below meth c X pc n mc ms sp2 h => absurd (zk_lka_mem h) List.not_mem_nil
/-- what a reckoning keeps -/
def KE (J J2 N N2 : Nat → Nat → Int32) : Prop := (∀ o k, ¬ (o = 0 ∧ k = 4) → ¬ (o = 18 ∧ k = 3) → J2 o k = J o k) ∧ ∀ o, o < 8 ∨ 21 < o → N2 o = N o
theorem KE.refl (J N : Nat → Nat → Int32) : KE J J N N := ⟨fun _ _ _ _ => rfl, fun _ _ => rfl⟩
theorem KE.trans {J J2 J3 N N2 N3 : Nat → Nat → Int32} (h : KE J J2 N N2) (h2 : KE J2 J3 N2 N3) : KE J J3 N N3 := ⟨fun o k a b => (h2.1 o k a b).trans (h.1 o k a b), fun o a => (h2.2 o a).trans (h.2 o a)⟩
theorem KE.un {J J2 N N2 : Nat → Nat → Int32} (h : KE J J2 N N2) {k : Nat} (A : Nat → Int32) (hk : 8 ≤ k ∧ k ≤ 21) : KE J J2 N (zk_un N2 k A) := ⟨h.1, fun o ho => by unfold zk_un; rw [if_neg (by omega)]; exact h.2 o ho⟩
/-- all is reckoned -/
def CF (J N J1 N1 : Nat → Nat → Int32) : Prop := J1 0 4 = 1 ∧ CC J N N1 ∧ WF J1 N1 (a_fl J N 10)
def sp_X10_reckon (E : zk_E) : zk_Sp zk_S := fun av σ sz P PX => match av with
  | [.ref a] => a = zk_ad E 0 ∧ ∃ J N fl, MI J N ∧ XR E sz σ J N fl ∧ (σ.1 0 4 = 0 ∨ CF J N σ.1 σ.2.1) ∧ ∀ J2 N2, KE σ.1 J2 σ.2.1 N2 → CF J N J2 N2 → P none (J2, N2, σ.2.2) sz
  | _ => False
theorem spe_X10_reckon (E : zk_E) (a : Nat) (σ : zk_S) (sz : Nat) (P : zk_P zk_S) (PX : zk_X zk_S) : sp_X10_reckon E [.ref a] σ sz P PX = (a = zk_ad E 0 ∧ ∃ J N fl, MI J N ∧ XR E sz σ J N fl ∧ (σ.1 0 4 = 0 ∨ CF J N σ.1 σ.2.1) ∧ ∀ J2 N2, KE σ.1 J2 σ.2.1 N2 → CF J N J2 N2 → P none (J2, N2, σ.2.2) sz) := propext Iff.rfl
def C_X10_reckon (E : zk_E) : zk_Cl zk_S := zk_lka [(16, 2, 0, 0, zk_rv (zk_VT E) (fun ci => Nat.beq ci 7) (sp_X8_reckonExits E)), (36, 3, 0, 0, zk_rv (zk_VT E) (fun ci => Nat.beq ci 7) (sp_X8_reckonRoom E)), (53, 2, 0, 0, zk_rv (zk_VT E) (fun ci => Nat.beq ci 7) (sp_X8_reckonDepths E)), (64, 2, 0, 0, zk_rv (zk_VT E) (fun ci => Nat.beq ci 7) (sp_X8_reckonLoads E)), (102, 4, 0, 0, zk_rv (zk_VT E) (fun ci => Nat.beq ci 2) (sp_X3_tellRule E))]
theorem r_X10_reckon (E : zk_E) (P : zk_P zk_S) (PX : zk_X zk_S) (K : Nat → zk_L → List Value → zk_W zk_S → Prop) : (∀ (n : Nat) (l1 : Option Value) (y0 : Value) (r : List Value) (σ : zk_S) (sz k c : Nat), zk_run E (zk_VT E) M_X10_reckon (C_X10_reckon E) P PX K (n + 1) 0 [some y0, l1] r (σ, sz, k, c) = (zk_isr y0 ∧ zk_run E (zk_VT E) M_X10_reckon (C_X10_reckon E) P PX K n 1 [some y0, l1] (y0 :: r) (σ, sz, k, c))) ∧
  (∀ (n : Nat) (l0 l1 : Option Value) (a : Nat) (r : List Value) (σ : zk_S) (sz k c : Nat), zk_run E (zk_VT E) M_X10_reckon (C_X10_reckon E) P PX K (n + 1) 1 [l0, l1] (.ref a :: r) (σ, sz, k, c) = zk_fld (zk_view E σ a) [9] 4 (fun v => zk_run E (zk_VT E) M_X10_reckon (C_X10_reckon E) P PX K n 4 [l0, l1] (v :: r) (σ, sz, k, c))) ∧
  (∀ (n : Nat) (l0 l1 : Option Value) (x : Int32) (r : List Value) (σ : zk_S) (sz k c : Nat), zk_run E (zk_VT E) M_X10_reckon (C_X10_reckon E) P PX K (n + 1) 4 [l0, l1] (.int x :: r) (σ, sz, k, c) = ((x = 0 → zk_run E (zk_VT E) M_X10_reckon (C_X10_reckon E) P PX K n 8 [l0, l1] r (σ, sz, k, c)) ∧ (¬ (x = 0) → zk_run E (zk_VT E) M_X10_reckon (C_X10_reckon E) P PX K n 7 [l0, l1] r (σ, sz, k, c)))) ∧
  (∀ (n : Nat) (l0 l1 : Option Value)   (σ : zk_S) (sz k c : Nat), zk_run E (zk_VT E) M_X10_reckon (C_X10_reckon E) P PX K (n + 1) 7 [l0, l1] [] (σ, sz, k, c) = (P none σ sz ∧ k ≤ 0 ∧ c ≤ 0)) ∧
  (∀ (n : Nat) (l1 : Option Value) (y0 : Value) (r : List Value) (σ : zk_S) (sz k c : Nat), zk_run E (zk_VT E) M_X10_reckon (C_X10_reckon E) P PX K (n + 1) 8 [some y0, l1] r (σ, sz, k, c) = (zk_isr y0 ∧ zk_run E (zk_VT E) M_X10_reckon (C_X10_reckon E) P PX K n 9 [some y0, l1] (y0 :: r) (σ, sz, k, c))) ∧
  (∀ (n : Nat) (l0 l1 : Option Value) (a : Nat) (r : List Value) (σ : zk_S) (sz k c : Nat), zk_run E (zk_VT E) M_X10_reckon (C_X10_reckon E) P PX K (n + 1) 9 [l0, l1] (.ref a :: r) (σ, sz, k, c) = zk_fld (zk_view E σ a) [9] 1 (fun v => zk_run E (zk_VT E) M_X10_reckon (C_X10_reckon E) P PX K n 12 [l0, l1] (v :: r) (σ, sz, k, c))) ∧
  (∀ (n : Nat) (l1 : Option Value) (y0 : Value) (r : List Value) (σ : zk_S) (sz k c : Nat), zk_run E (zk_VT E) M_X10_reckon (C_X10_reckon E) P PX K (n + 1) 12 [some y0, l1] r (σ, sz, k, c) = (zk_isr y0 ∧ zk_run E (zk_VT E) M_X10_reckon (C_X10_reckon E) P PX K n 13 [some y0, l1] (y0 :: r) (σ, sz, k, c))) ∧
  (∀ (n : Nat) (l0 l1 : Option Value) (a : Nat) (r : List Value) (σ : zk_S) (sz k c : Nat), zk_run E (zk_VT E) M_X10_reckon (C_X10_reckon E) P PX K (n + 1) 13 [l0, l1] (.ref a :: r) (σ, sz, k, c) = zk_fld (zk_view E σ a) [9] 0 (fun v => zk_run E (zk_VT E) M_X10_reckon (C_X10_reckon E) P PX K n 16 [l0, l1] (v :: r) (σ, sz, k, c))) ∧
  (∀ (n : Nat) (l0 l1 : Option Value) (v0 : Value) (v1 : Value)  (σ : zk_S) (sz k c : Nat), zk_run E (zk_VT E) M_X10_reckon (C_X10_reckon E) P PX K (n + 1) 16 [l0, l1] [v0, v1] (σ, sz, k, c) = (k + 0 ≤ 0 ∧ c + 0 ≤ 0 ∧ (zk_rv (zk_VT E) (fun ci => Nat.beq ci 7) (sp_X8_reckonExits E)) [v1, v0] σ sz (fun v s2 z2 => zk_run E (zk_VT E) M_X10_reckon (C_X10_reckon E) P PX K n 19 [l0, l1] (zk_psh v []) (s2, z2, k + 0, c + 0)) (fun X s2 z2 => PX X s2 z2))) ∧
  (∀ (n : Nat) (l0 l1 : Option Value)  (r : List Value) (σ : zk_S) (sz k c : Nat), zk_run E (zk_VT E) M_X10_reckon (C_X10_reckon E) P PX K (n + 1) 19 [l0, l1] r (σ, sz, k, c) = zk_run E (zk_VT E) M_X10_reckon (C_X10_reckon E) P PX K n 20 [l0, l1] (.int (0) :: r) (σ, sz, k, c)) ∧
  (∀ (n : Nat) (l0 l1 : Option Value) (x : Int32) (r : List Value) (σ : zk_S) (sz k c : Nat), zk_run E (zk_VT E) M_X10_reckon (C_X10_reckon E) P PX K (n + 1) 20 [l0, l1] (.int x :: r) (σ, sz, k, c) = zk_run E (zk_VT E) M_X10_reckon (C_X10_reckon E) P PX K n 21 [zk_kl l0, some (.int x)] r (σ, sz, k, c)) ∧
  (∀ (n : Nat) (l0 l1 : Option Value)  (r : List Value) (σ : zk_S) (sz k c : Nat), zk_run E (zk_VT E) M_X10_reckon (C_X10_reckon E) P PX K (n + 1) 21 [l0, l1] r (σ, sz, k, c) = K 21 [l0, l1] r (σ, sz, k, c)) ∧
  (∀ (n : Nat) (l0 l1 : Option Value)  (r : List Value) (σ : zk_S) (sz k c : Nat), zk_run E (zk_VT E) M_X10_reckon (C_X10_reckon E) P PX K (n + 1) 22 [l0, l1] r (σ, sz, k, c) = zk_run E (zk_VT E) M_X10_reckon (C_X10_reckon E) P PX K n 24 [l0, l1] (.int (20) :: r) (σ, sz, k, c)) ∧
  (∀ (n : Nat) (l0 l1 : Option Value) (x y : Int32) (r : List Value) (σ : zk_S) (sz k c : Nat), zk_run E (zk_VT E) M_X10_reckon (C_X10_reckon E) P PX K (n + 1) 24 [l0, l1] (.int y :: .int x :: r) (σ, sz, k, c) = ((y ≤ x → zk_run E (zk_VT E) M_X10_reckon (C_X10_reckon E) P PX K n 45 [l0, l1] r (σ, sz, k, c)) ∧ (¬ (y ≤ x) → zk_run E (zk_VT E) M_X10_reckon (C_X10_reckon E) P PX K n 27 [l0, l1] r (σ, sz, k, c)))) ∧
  (∀ (n : Nat) (l1 : Option Value) (y0 : Value) (r : List Value) (σ : zk_S) (sz k c : Nat), zk_run E (zk_VT E) M_X10_reckon (C_X10_reckon E) P PX K (n + 1) 27 [some y0, l1] r (σ, sz, k, c) = (zk_isr y0 ∧ zk_run E (zk_VT E) M_X10_reckon (C_X10_reckon E) P PX K n 28 [some y0, l1] (y0 :: r) (σ, sz, k, c))) ∧
  (∀ (n : Nat) (l0 l1 : Option Value) (a : Nat) (r : List Value) (σ : zk_S) (sz k c : Nat), zk_run E (zk_VT E) M_X10_reckon (C_X10_reckon E) P PX K (n + 1) 28 [l0, l1] (.ref a :: r) (σ, sz, k, c) = zk_fld (zk_view E σ a) [9] 1 (fun v => zk_run E (zk_VT E) M_X10_reckon (C_X10_reckon E) P PX K n 31 [l0, l1] (v :: r) (σ, sz, k, c))) ∧
  (∀ (n : Nat) (l1 : Option Value) (y0 : Value) (r : List Value) (σ : zk_S) (sz k c : Nat), zk_run E (zk_VT E) M_X10_reckon (C_X10_reckon E) P PX K (n + 1) 31 [some y0, l1] r (σ, sz, k, c) = (zk_isr y0 ∧ zk_run E (zk_VT E) M_X10_reckon (C_X10_reckon E) P PX K n 32 [some y0, l1] (y0 :: r) (σ, sz, k, c))) ∧
  (∀ (n : Nat) (l0 l1 : Option Value) (a : Nat) (r : List Value) (σ : zk_S) (sz k c : Nat), zk_run E (zk_VT E) M_X10_reckon (C_X10_reckon E) P PX K (n + 1) 32 [l0, l1] (.ref a :: r) (σ, sz, k, c) = zk_fld (zk_view E σ a) [9] 0 (fun v => zk_run E (zk_VT E) M_X10_reckon (C_X10_reckon E) P PX K n 35 [l0, l1] (v :: r) (σ, sz, k, c))) ∧
  (∀ (n : Nat) (l0 : Option Value) (y1 : Int32) (r : List Value) (σ : zk_S) (sz k c : Nat), zk_run E (zk_VT E) M_X10_reckon (C_X10_reckon E) P PX K (n + 1) 35 [l0, some (.int y1)] r (σ, sz, k, c) = zk_run E (zk_VT E) M_X10_reckon (C_X10_reckon E) P PX K n 36 [l0, some (.int y1)] (.int y1 :: r) (σ, sz, k, c)) ∧
  (∀ (n : Nat) (l0 l1 : Option Value) (v0 : Value) (v1 : Value) (v2 : Value)  (σ : zk_S) (sz k c : Nat), zk_run E (zk_VT E) M_X10_reckon (C_X10_reckon E) P PX K (n + 1) 36 [l0, l1] [v0, v1, v2] (σ, sz, k, c) = (k + 0 ≤ 0 ∧ c + 0 ≤ 0 ∧ (zk_rv (zk_VT E) (fun ci => Nat.beq ci 7) (sp_X8_reckonRoom E)) [v2, v1, v0] σ sz (fun v s2 z2 => zk_run E (zk_VT E) M_X10_reckon (C_X10_reckon E) P PX K n 39 [l0, l1] (zk_psh v []) (s2, z2, k + 0, c + 0)) (fun X s2 z2 => PX X s2 z2))) ∧
  (∀ (n : Nat) (l0 : Option Value) (y1 : Int32) (r : List Value) (σ : zk_S) (sz k c : Nat), zk_run E (zk_VT E) M_X10_reckon (C_X10_reckon E) P PX K (n + 1) 39 [l0, some (.int y1)] r (σ, sz, k, c) = zk_run E (zk_VT E) M_X10_reckon (C_X10_reckon E) P PX K n 42 [zk_kl l0, some (.int (y1 + 1))] r (σ, sz, k, c)) ∧
  (∀ (n : Nat) (l0 l1 : Option Value)  (r : List Value) (σ : zk_S) (sz k c : Nat), zk_run E (zk_VT E) M_X10_reckon (C_X10_reckon E) P PX K (n + 1) 42 [l0, l1] r (σ, sz, k, c) = zk_run E (zk_VT E) M_X10_reckon (C_X10_reckon E) P PX K n 21 [l0, l1] r (σ, sz, k, c)) ∧
  (∀ (n : Nat) (l1 : Option Value) (y0 : Value) (r : List Value) (σ : zk_S) (sz k c : Nat), zk_run E (zk_VT E) M_X10_reckon (C_X10_reckon E) P PX K (n + 1) 45 [some y0, l1] r (σ, sz, k, c) = (zk_isr y0 ∧ zk_run E (zk_VT E) M_X10_reckon (C_X10_reckon E) P PX K n 46 [some y0, l1] (y0 :: r) (σ, sz, k, c))) ∧
  (∀ (n : Nat) (l0 l1 : Option Value) (a : Nat) (r : List Value) (σ : zk_S) (sz k c : Nat), zk_run E (zk_VT E) M_X10_reckon (C_X10_reckon E) P PX K (n + 1) 46 [l0, l1] (.ref a :: r) (σ, sz, k, c) = zk_fld (zk_view E σ a) [9] 1 (fun v => zk_run E (zk_VT E) M_X10_reckon (C_X10_reckon E) P PX K n 49 [l0, l1] (v :: r) (σ, sz, k, c))) ∧
  (∀ (n : Nat) (l1 : Option Value) (y0 : Value) (r : List Value) (σ : zk_S) (sz k c : Nat), zk_run E (zk_VT E) M_X10_reckon (C_X10_reckon E) P PX K (n + 1) 49 [some y0, l1] r (σ, sz, k, c) = (zk_isr y0 ∧ zk_run E (zk_VT E) M_X10_reckon (C_X10_reckon E) P PX K n 50 [some y0, l1] (y0 :: r) (σ, sz, k, c))) ∧
  (∀ (n : Nat) (l0 l1 : Option Value) (a : Nat) (r : List Value) (σ : zk_S) (sz k c : Nat), zk_run E (zk_VT E) M_X10_reckon (C_X10_reckon E) P PX K (n + 1) 50 [l0, l1] (.ref a :: r) (σ, sz, k, c) = zk_fld (zk_view E σ a) [9] 0 (fun v => zk_run E (zk_VT E) M_X10_reckon (C_X10_reckon E) P PX K n 53 [l0, l1] (v :: r) (σ, sz, k, c))) ∧
  (∀ (n : Nat) (l0 l1 : Option Value) (v0 : Value) (v1 : Value)  (σ : zk_S) (sz k c : Nat), zk_run E (zk_VT E) M_X10_reckon (C_X10_reckon E) P PX K (n + 1) 53 [l0, l1] [v0, v1] (σ, sz, k, c) = (k + 0 ≤ 0 ∧ c + 0 ≤ 0 ∧ (zk_rv (zk_VT E) (fun ci => Nat.beq ci 7) (sp_X8_reckonDepths E)) [v1, v0] σ sz (fun v s2 z2 => zk_run E (zk_VT E) M_X10_reckon (C_X10_reckon E) P PX K n 56 [l0, l1] (zk_psh v []) (s2, z2, k + 0, c + 0)) (fun X s2 z2 => PX X s2 z2))) ∧
  (∀ (n : Nat) (l1 : Option Value) (y0 : Value) (r : List Value) (σ : zk_S) (sz k c : Nat), zk_run E (zk_VT E) M_X10_reckon (C_X10_reckon E) P PX K (n + 1) 56 [some y0, l1] r (σ, sz, k, c) = (zk_isr y0 ∧ zk_run E (zk_VT E) M_X10_reckon (C_X10_reckon E) P PX K n 57 [some y0, l1] (y0 :: r) (σ, sz, k, c))) ∧
  (∀ (n : Nat) (l0 l1 : Option Value) (a : Nat) (r : List Value) (σ : zk_S) (sz k c : Nat), zk_run E (zk_VT E) M_X10_reckon (C_X10_reckon E) P PX K (n + 1) 57 [l0, l1] (.ref a :: r) (σ, sz, k, c) = zk_fld (zk_view E σ a) [9] 1 (fun v => zk_run E (zk_VT E) M_X10_reckon (C_X10_reckon E) P PX K n 60 [l0, l1] (v :: r) (σ, sz, k, c))) ∧
  (∀ (n : Nat) (l1 : Option Value) (y0 : Value) (r : List Value) (σ : zk_S) (sz k c : Nat), zk_run E (zk_VT E) M_X10_reckon (C_X10_reckon E) P PX K (n + 1) 60 [some y0, l1] r (σ, sz, k, c) = (zk_isr y0 ∧ zk_run E (zk_VT E) M_X10_reckon (C_X10_reckon E) P PX K n 61 [some y0, l1] (y0 :: r) (σ, sz, k, c))) ∧
  (∀ (n : Nat) (l0 l1 : Option Value) (a : Nat) (r : List Value) (σ : zk_S) (sz k c : Nat), zk_run E (zk_VT E) M_X10_reckon (C_X10_reckon E) P PX K (n + 1) 61 [l0, l1] (.ref a :: r) (σ, sz, k, c) = zk_fld (zk_view E σ a) [9] 0 (fun v => zk_run E (zk_VT E) M_X10_reckon (C_X10_reckon E) P PX K n 64 [l0, l1] (v :: r) (σ, sz, k, c))) ∧
  (∀ (n : Nat) (l0 l1 : Option Value) (v0 : Value) (v1 : Value)  (σ : zk_S) (sz k c : Nat), zk_run E (zk_VT E) M_X10_reckon (C_X10_reckon E) P PX K (n + 1) 64 [l0, l1] [v0, v1] (σ, sz, k, c) = (k + 0 ≤ 0 ∧ c + 0 ≤ 0 ∧ (zk_rv (zk_VT E) (fun ci => Nat.beq ci 7) (sp_X8_reckonLoads E)) [v1, v0] σ sz (fun v s2 z2 => zk_run E (zk_VT E) M_X10_reckon (C_X10_reckon E) P PX K n 67 [l0, l1] (zk_psh v []) (s2, z2, k + 0, c + 0)) (fun X s2 z2 => PX X s2 z2))) ∧
  (∀ (n : Nat) (l1 : Option Value) (y0 : Value) (r : List Value) (σ : zk_S) (sz k c : Nat), zk_run E (zk_VT E) M_X10_reckon (C_X10_reckon E) P PX K (n + 1) 67 [some y0, l1] r (σ, sz, k, c) = (zk_isr y0 ∧ zk_run E (zk_VT E) M_X10_reckon (C_X10_reckon E) P PX K n 68 [some y0, l1] (y0 :: r) (σ, sz, k, c))) ∧
  (∀ (n : Nat) (l0 l1 : Option Value) (a : Nat) (r : List Value) (σ : zk_S) (sz k c : Nat), zk_run E (zk_VT E) M_X10_reckon (C_X10_reckon E) P PX K (n + 1) 68 [l0, l1] (.ref a :: r) (σ, sz, k, c) = zk_fld (zk_view E σ a) [9] 3 (fun v => zk_run E (zk_VT E) M_X10_reckon (C_X10_reckon E) P PX K n 71 [l0, l1] (v :: r) (σ, sz, k, c))) ∧
  (∀ (n : Nat) (l0 l1 : Option Value)  (r : List Value) (σ : zk_S) (sz k c : Nat), zk_run E (zk_VT E) M_X10_reckon (C_X10_reckon E) P PX K (n + 1) 71 [l0, l1] r (σ, sz, k, c) = zk_run E (zk_VT E) M_X10_reckon (C_X10_reckon E) P PX K n 72 [l0, l1] (.int (0) :: r) (σ, sz, k, c)) ∧
  (∀ (n : Nat) (l0 l1 : Option Value) (a : Nat) (v : Value) (r : List Value) (σ : zk_S) (sz k c : Nat), zk_run E (zk_VT E) M_X10_reckon (C_X10_reckon E) P PX K (n + 1) 72 [l0, l1] (v :: .ref a :: r) (σ, sz, k, c) = zk_put (zk_view E σ a) [2] 3 0 v (zk_pfok E σ a 3 v ∧ zk_run E (zk_VT E) M_X10_reckon (C_X10_reckon E) P PX K n 75 [l0, l1] r (zk_pf E σ a 3 v, sz, k, c))) ∧
  (∀ (n : Nat) (l0 l1 : Option Value)  (r : List Value) (σ : zk_S) (sz k c : Nat), zk_run E (zk_VT E) M_X10_reckon (C_X10_reckon E) P PX K (n + 1) 75 [l0, l1] r (σ, sz, k, c) = zk_run E (zk_VT E) M_X10_reckon (C_X10_reckon E) P PX K n 76 [l0, l1] (.int (0) :: r) (σ, sz, k, c)) ∧
  (∀ (n : Nat) (l0 l1 : Option Value) (x : Int32) (r : List Value) (σ : zk_S) (sz k c : Nat), zk_run E (zk_VT E) M_X10_reckon (C_X10_reckon E) P PX K (n + 1) 76 [l0, l1] (.int x :: r) (σ, sz, k, c) = zk_run E (zk_VT E) M_X10_reckon (C_X10_reckon E) P PX K n 77 [zk_kl l0, some (.int x)] r (σ, sz, k, c)) ∧
  (∀ (n : Nat) (l0 l1 : Option Value)  (r : List Value) (σ : zk_S) (sz k c : Nat), zk_run E (zk_VT E) M_X10_reckon (C_X10_reckon E) P PX K (n + 1) 77 [l0, l1] r (σ, sz, k, c) = K 77 [l0, l1] r (σ, sz, k, c)) ∧
  (∀ (n : Nat) (l1 : Option Value) (y0 : Value) (r : List Value) (σ : zk_S) (sz k c : Nat), zk_run E (zk_VT E) M_X10_reckon (C_X10_reckon E) P PX K (n + 1) 78 [some y0, l1] r (σ, sz, k, c) = (zk_isr y0 ∧ zk_run E (zk_VT E) M_X10_reckon (C_X10_reckon E) P PX K n 79 [some y0, l1] (y0 :: r) (σ, sz, k, c))) := ⟨by intros; rfl, by intros; rfl, by intros; rfl, by intros; rfl, by intros; rfl, by intros; rfl, by intros; rfl, by intros; rfl, by intros; rfl, by intros; rfl, by intros; rfl, by intros; rfl, by intros; rfl, by intros; rfl, by intros; rfl, by intros; rfl, by intros; rfl, by intros; rfl, by intros; rfl, by intros; rfl, by intros; rfl, by intros; rfl, by intros; rfl, by intros; rfl, by intros; rfl, by intros; rfl, by intros; rfl, by intros; rfl, by intros; rfl, by intros; rfl, by intros; rfl, by intros; rfl, by intros; rfl, by intros; rfl, by intros; rfl, by intros; rfl, by intros; rfl, by intros; rfl, by intros; rfl, by intros; rfl⟩
theorem r_X10_reckon_1 (E : zk_E) (P : zk_P zk_S) (PX : zk_X zk_S) (K : Nat → zk_L → List Value → zk_W zk_S → Prop) : (∀ (n : Nat) (l0 l1 : Option Value) (a : Nat) (r : List Value) (σ : zk_S) (sz k c : Nat), zk_run E (zk_VT E) M_X10_reckon (C_X10_reckon E) P PX K (n + 1) 79 [l0, l1] (.ref a :: r) (σ, sz, k, c) = zk_fld (zk_view E σ a) [9] 0 (fun v => zk_run E (zk_VT E) M_X10_reckon (C_X10_reckon E) P PX K n 82 [l0, l1] (v :: r) (σ, sz, k, c))) ∧
  (∀ (n : Nat) (l0 l1 : Option Value) (a : Nat) (r : List Value) (σ : zk_S) (sz k c : Nat), zk_run E (zk_VT E) M_X10_reckon (C_X10_reckon E) P PX K (n + 1) 82 [l0, l1] (.ref a :: r) (σ, sz, k, c) = zk_fld (zk_view E σ a) [4] 4 (fun v => zk_run E (zk_VT E) M_X10_reckon (C_X10_reckon E) P PX K n 85 [l0, l1] (v :: r) (σ, sz, k, c))) ∧
  (∀ (n : Nat) (l0 l1 : Option Value) (a : Nat) (r : List Value) (σ : zk_S) (sz k c : Nat), zk_run E (zk_VT E) M_X10_reckon (C_X10_reckon E) P PX K (n + 1) 85 [l0, l1] (.ref a :: r) (σ, sz, k, c) = zk_lenq E (zk_view E σ a) (fun x => zk_run E (zk_VT E) M_X10_reckon (C_X10_reckon E) P PX K n 86 [l0, l1] (.int x :: r) (σ, sz, k, c))) ∧
  (∀ (n : Nat) (l0 l1 : Option Value) (x y : Int32) (r : List Value) (σ : zk_S) (sz k c : Nat), zk_run E (zk_VT E) M_X10_reckon (C_X10_reckon E) P PX K (n + 1) 86 [l0, l1] (.int y :: .int x :: r) (σ, sz, k, c) = ((y ≤ x → zk_run E (zk_VT E) M_X10_reckon (C_X10_reckon E) P PX K n 111 [l0, l1] r (σ, sz, k, c)) ∧ (¬ (y ≤ x) → zk_run E (zk_VT E) M_X10_reckon (C_X10_reckon E) P PX K n 89 [l0, l1] r (σ, sz, k, c)))) ∧
  (∀ (n : Nat) (l1 : Option Value) (y0 : Value) (r : List Value) (σ : zk_S) (sz k c : Nat), zk_run E (zk_VT E) M_X10_reckon (C_X10_reckon E) P PX K (n + 1) 89 [some y0, l1] r (σ, sz, k, c) = (zk_isr y0 ∧ zk_run E (zk_VT E) M_X10_reckon (C_X10_reckon E) P PX K n 90 [some y0, l1] (y0 :: r) (σ, sz, k, c))) ∧
  (∀ (n : Nat) (l0 l1 : Option Value) (a : Nat) (r : List Value) (σ : zk_S) (sz k c : Nat), zk_run E (zk_VT E) M_X10_reckon (C_X10_reckon E) P PX K (n + 1) 90 [l0, l1] (.ref a :: r) (σ, sz, k, c) = zk_fld (zk_view E σ a) [9] 3 (fun v => zk_run E (zk_VT E) M_X10_reckon (C_X10_reckon E) P PX K n 93 [l0, l1] (v :: r) (σ, sz, k, c))) ∧
  (∀ (n : Nat) (l1 : Option Value) (y0 : Value) (r : List Value) (σ : zk_S) (sz k c : Nat), zk_run E (zk_VT E) M_X10_reckon (C_X10_reckon E) P PX K (n + 1) 93 [some y0, l1] r (σ, sz, k, c) = (zk_isr y0 ∧ zk_run E (zk_VT E) M_X10_reckon (C_X10_reckon E) P PX K n 94 [some y0, l1] (y0 :: r) (σ, sz, k, c))) ∧
  (∀ (n : Nat) (l0 l1 : Option Value) (a : Nat) (r : List Value) (σ : zk_S) (sz k c : Nat), zk_run E (zk_VT E) M_X10_reckon (C_X10_reckon E) P PX K (n + 1) 94 [l0, l1] (.ref a :: r) (σ, sz, k, c) = zk_fld (zk_view E σ a) [9] 0 (fun v => zk_run E (zk_VT E) M_X10_reckon (C_X10_reckon E) P PX K n 97 [l0, l1] (v :: r) (σ, sz, k, c))) ∧
  (∀ (n : Nat) (l1 : Option Value) (y0 : Value) (r : List Value) (σ : zk_S) (sz k c : Nat), zk_run E (zk_VT E) M_X10_reckon (C_X10_reckon E) P PX K (n + 1) 97 [some y0, l1] r (σ, sz, k, c) = (zk_isr y0 ∧ zk_run E (zk_VT E) M_X10_reckon (C_X10_reckon E) P PX K n 98 [some y0, l1] (y0 :: r) (σ, sz, k, c))) ∧
  (∀ (n : Nat) (l0 l1 : Option Value) (a : Nat) (r : List Value) (σ : zk_S) (sz k c : Nat), zk_run E (zk_VT E) M_X10_reckon (C_X10_reckon E) P PX K (n + 1) 98 [l0, l1] (.ref a :: r) (σ, sz, k, c) = zk_fld (zk_view E σ a) [9] 1 (fun v => zk_run E (zk_VT E) M_X10_reckon (C_X10_reckon E) P PX K n 101 [l0, l1] (v :: r) (σ, sz, k, c))) ∧
  (∀ (n : Nat) (l0 : Option Value) (y1 : Int32) (r : List Value) (σ : zk_S) (sz k c : Nat), zk_run E (zk_VT E) M_X10_reckon (C_X10_reckon E) P PX K (n + 1) 101 [l0, some (.int y1)] r (σ, sz, k, c) = zk_run E (zk_VT E) M_X10_reckon (C_X10_reckon E) P PX K n 102 [l0, some (.int y1)] (.int y1 :: r) (σ, sz, k, c)) ∧
  (∀ (n : Nat) (l0 l1 : Option Value) (v0 : Value) (v1 : Value) (v2 : Value) (v3 : Value)  (σ : zk_S) (sz k c : Nat), zk_run E (zk_VT E) M_X10_reckon (C_X10_reckon E) P PX K (n + 1) 102 [l0, l1] [v0, v1, v2, v3] (σ, sz, k, c) = (k + 0 ≤ 0 ∧ c + 0 ≤ 0 ∧ (zk_rv (zk_VT E) (fun ci => Nat.beq ci 2) (sp_X3_tellRule E)) [v3, v2, v1, v0] σ sz (fun v s2 z2 => zk_run E (zk_VT E) M_X10_reckon (C_X10_reckon E) P PX K n 105 [l0, l1] (zk_psh v []) (s2, z2, k + 0, c + 0)) (fun X s2 z2 => PX X s2 z2))) ∧
  (∀ (n : Nat) (l0 : Option Value) (y1 : Int32) (r : List Value) (σ : zk_S) (sz k c : Nat), zk_run E (zk_VT E) M_X10_reckon (C_X10_reckon E) P PX K (n + 1) 105 [l0, some (.int y1)] r (σ, sz, k, c) = zk_run E (zk_VT E) M_X10_reckon (C_X10_reckon E) P PX K n 108 [zk_kl l0, some (.int (y1 + 1))] r (σ, sz, k, c)) ∧
  (∀ (n : Nat) (l0 l1 : Option Value)  (r : List Value) (σ : zk_S) (sz k c : Nat), zk_run E (zk_VT E) M_X10_reckon (C_X10_reckon E) P PX K (n + 1) 108 [l0, l1] r (σ, sz, k, c) = zk_run E (zk_VT E) M_X10_reckon (C_X10_reckon E) P PX K n 77 [l0, l1] r (σ, sz, k, c)) ∧
  (∀ (n : Nat) (l1 : Option Value) (y0 : Value) (r : List Value) (σ : zk_S) (sz k c : Nat), zk_run E (zk_VT E) M_X10_reckon (C_X10_reckon E) P PX K (n + 1) 111 [some y0, l1] r (σ, sz, k, c) = (zk_isr y0 ∧ zk_run E (zk_VT E) M_X10_reckon (C_X10_reckon E) P PX K n 112 [some y0, l1] (y0 :: r) (σ, sz, k, c))) ∧
  (∀ (n : Nat) (l0 l1 : Option Value)  (r : List Value) (σ : zk_S) (sz k c : Nat), zk_run E (zk_VT E) M_X10_reckon (C_X10_reckon E) P PX K (n + 1) 112 [l0, l1] r (σ, sz, k, c) = zk_run E (zk_VT E) M_X10_reckon (C_X10_reckon E) P PX K n 113 [l0, l1] (.int (1) :: r) (σ, sz, k, c)) ∧
  (∀ (n : Nat) (l0 l1 : Option Value) (a : Nat) (v : Value) (r : List Value) (σ : zk_S) (sz k c : Nat), zk_run E (zk_VT E) M_X10_reckon (C_X10_reckon E) P PX K (n + 1) 113 [l0, l1] (v :: .ref a :: r) (σ, sz, k, c) = zk_put (zk_view E σ a) [9] 4 1 v (zk_pfok E σ a 4 v ∧ zk_run E (zk_VT E) M_X10_reckon (C_X10_reckon E) P PX K n 116 [l0, l1] r (zk_pf E σ a 4 v, sz, k, c))) ∧
  (∀ (n : Nat) (l0 l1 : Option Value)   (σ : zk_S) (sz k c : Nat), zk_run E (zk_VT E) M_X10_reckon (C_X10_reckon E) P PX K (n + 1) 116 [l0, l1] [] (σ, sz, k, c) = (P none σ sz ∧ k ≤ 0 ∧ c ≤ 0)) ∧
  (∀ (n : Nat) (l0 l1 : Option Value) (r : List Value) (w : zk_W zk_S), zk_go E (zk_VT E) M_X10_reckon (C_X10_reckon E) P PX K n 0 [l0, l1] r w = zk_run E (zk_VT E) M_X10_reckon (C_X10_reckon E) P PX K (n + 1) 0 [l0, l1] r w) ∧
  (∀ (n : Nat) (l0 : Option Value) (y1 : Int32) (r : List Value) (σ : zk_S) (sz k c : Nat), zk_go E (zk_VT E) M_X10_reckon (C_X10_reckon E) P PX K n 21 [l0, some (.int y1)] r (σ, sz, k, c) = zk_run E (zk_VT E) M_X10_reckon (C_X10_reckon E) P PX K n 22 [l0, some (.int y1)] (.int y1 :: r) (σ, sz, k, c)) ∧
  (∀ (n : Nat) (l0 : Option Value) (y1 : Int32) (r : List Value) (σ : zk_S) (sz k c : Nat), zk_go E (zk_VT E) M_X10_reckon (C_X10_reckon E) P PX K n 77 [l0, some (.int y1)] r (σ, sz, k, c) = zk_run E (zk_VT E) M_X10_reckon (C_X10_reckon E) P PX K n 78 [l0, some (.int y1)] (.int y1 :: r) (σ, sz, k, c)) := ⟨by intros; rfl, by intros; rfl, by intros; rfl, by intros; rfl, by intros; rfl, by intros; rfl, by intros; rfl, by intros; rfl, by intros; rfl, by intros; rfl, by intros; rfl, by intros; rfl, by intros; rfl, by intros; rfl, by intros; rfl, by intros; rfl, by intros; rfl, by intros; rfl, by intros; rfl, by intros; rfl, by intros; rfl⟩
theorem vc_X10_reckon (E : zk_E) : zk_VC E (zk_VT E) M_X10_reckon (C_X10_reckon E) 2 (sp_X10_reckon E) := by
  intro av σ sz P PX h
  obtain ⟨J, N, Q, O, U⟩ := σ
  unfold sp_X10_reckon at h
  split at h
  case h_2 => exact h.elim
  rename_i a0
  obtain ⟨rfl, h⟩ := h
  refine ⟨Nat.le_of_ble_eq_true rfl, fun G hG => ?_⟩
  change G 0 [some (.ref (zk_ad E 0)), none] [] ((J, N, Q, O, U), sz, 0, 0)
  try dsimp only at h
  obtain ⟨J1, N1, fl, hmi, hxr, hr, h⟩ := h
  rcases hr with h04 | hcf
  · have c10 : Int32.ofNat 10 = nI 10 := rfl
    -- the rules
    have loopF : ∀ m r J2 N2, r + m = 10 → KE J J2 N N2 → CC J1 N1 N2 → WF J2 N2 (a_fl J1 N1 r) → G 77 [some (.ref (zk_ad E 0)), some (.int (nI r))] [] ((J2, N2, Q, O, U), sz, 0, 0) := by
      intro m
      induction m with
      | zero =>
        intro r J2 N2 hr hke hcc hwf
        have c1 : nI 10 ≤ nI r := nI_le (by omega) (by omega)
        have er : r = 10 := by omega
        subst er
        have h2 := h (zk_uj J2 0 4 1) N2 ⟨fun o k a b => by unfold zk_uj; rw [if_neg a]; exact hke.1 o k a b, hke.2⟩ ⟨by unfold zk_uj; rw [if_pos ⟨rfl, rfl⟩], hcc, hwf⟩
        (refine hG 900 _ _ _ _ ?_; simp only [r_X10_reckon, r_X10_reckon_1, c10, c1])
        exact h2
      | succ m ih =>
        intro r J2 N2 hr hke hcc hwf
        have c1 : ¬ nI 10 ≤ nI r := nI_ge (by omega) (by omega)
        have hx2 : XR E sz (J2, N2, Q, O, U) J1 N1 fl := hxr.cn (by funext k; exact hke.1 1 k (by omega) (by omega)) (hke.2 6 (by omega))
        (refine hG 900 _ _ _ _ ?_; simp only [r_X10_reckon, r_X10_reckon_1, c10, c1, spe_X3_tellRule])
        refine ⟨J1, N1, fl, r, hmi, hx2, hcc, by omega, rfl, hwf, fun J3 N3 a1 a2 a3 => ?_⟩
        have ih2 := ih (r + 1) J3 N3 (by omega) ⟨fun o k a b => (a1 o k b).trans (hke.1 o k a b), fun o ho => (a2 o (by omega)).trans (hke.2 o ho)⟩ (hcc.same (fun o b1 b2 => a2 o (by omega))) a3
        simp only [r_X10_reckon, r_X10_reckon_1, n_succ]
        exact ih2
    have loopR : ∀ m k N2, k + m = 20 → KE J J N N2 → WA J1 N1 N2 → (∀ q, q < k → N2 11 q = bex (lea J1 N1 q) ∧ N2 12 q = a_mid J1 N1 q ∧ N2 13 q = a_far J1 N1 q) → G 21 [some (.ref (zk_ad E 0)), some (.int (nI k))] [] ((J, N2, Q, O, U), sz, 0, 0) := by
      intro m
      induction m with
      | zero =>
        intro k N2 hk hke hwa hw
        have c1 : (20 : Int32) ≤ nI k := (nI_le (a := 20) (by omega) (by omega) : nI 20 ≤ nI k)
        have hx2 : XR E sz (J, N2, Q, O, U) J1 N1 fl := hxr.cn rfl (hke.2 6 (by omega))
        (refine hG 900 _ _ _ _ ?_; simp only [r_X10_reckon, r_X10_reckon_1, c1, spe_X8_reckonDepths])
        refine ⟨J1, N1, fl, hmi, hx2, fun q hq => (hw q (by omega)).1, fun D hD => ?_⟩
        simp only [r_X10_reckon, r_X10_reckon_1, spe_X8_reckonLoads]
        refine ⟨J1, N1, fl, hmi, hx2.cn rfl rfl, fun q hq => (hw q (by omega)).1, hD, fun L hL => ?_⟩
        have f0 := loopF 10 0 (zk_uj J 18 3 0) (zk_un (zk_un N2 14 D) 10 L) (by omega) ⟨fun o k a b => by unfold zk_uj; rw [if_neg b], ((hke.un D (by decide)).un L (by decide)).2⟩ ⟨hwa, hL, fun q hq => ⟨(hw q (by omega)).1, (hw q (by omega)).2.1, (hw q (by omega)).2.2, hD q hq⟩⟩ ⟨by unfold zk_uj; rw [if_pos ⟨rfl, rfl⟩]; rfl, fun i hi => absurd hi (Nat.not_lt_zero i)⟩
        rw [show nI 0 = 0 from rfl] at f0
        exact f0
      | succ m ih =>
        intro k N2 hk hke hwa hw
        have c1 : ¬ (20 : Int32) ≤ nI k := (nI_ge (b := 20) (by omega) (by decide) : ¬ nI 20 ≤ nI k)
        have hx2 : XR E sz (J, N2, Q, O, U) J1 N1 fl := hxr.cn rfl (hke.2 6 (by omega))
        have ih2 := ih (k + 1) (zk_un (zk_un (zk_un N2 11 (upd (N2 11) k (bex (lea J1 N1 k)))) 12 (upd (N2 12) k (a_mid J1 N1 k))) 13 (upd (N2 13) k (a_far J1 N1 k))) (by omega) (((hke.un _ (by decide)).un _ (by decide)).un _ (by decide)) hwa (fun q hq => by
          show upd (N2 11) k _ q = _ ∧ upd (N2 12) k _ q = _ ∧ upd (N2 13) k _ q = _
          by_cases z : q = k
          · rw [z, upd_self, upd_self, upd_self]; exact ⟨rfl, rfl, rfl⟩
          · rw [upd_ne _ _ z, upd_ne _ _ z, upd_ne _ _ z]; exact hw q (by omega))
        (refine hG 900 _ _ _ _ ?_; simp only [r_X10_reckon, r_X10_reckon_1, c1, spe_X8_reckonRoom])
        refine ⟨J1, N1, fl, k, hmi, hx2, hwa, by omega, rfl, ?_⟩
        simp only [r_X10_reckon, r_X10_reckon_1, n_succ]
        exact ih2
    (refine hG 900 _ _ _ _ ?_; simp only [r_X10_reckon, r_X10_reckon_1, h04, spe_X8_reckonExits])
    refine ⟨J1, N1, fl, hmi, hxr, fun A B hAB => ?_⟩
    have r0 := loopR 20 0 (zk_un (zk_un N 8 A) 9 B) (by omega) (((KE.refl J N).un A (by decide)).un B (by decide)) hAB (fun q hq => absurd hq (Nat.not_lt_zero q))
    rw [show nI 0 = 0 from rfl] at r0
    exact r0
  · have h04 := hcf.1
    have h2 := h J N (KE.refl J N) hcf
    (refine hG 900 _ _ _ _ ?_; simp only [r_X10_reckon, r_X10_reckon_1, h04])
    exact h2
theorem ct_X10_reckon {l : Launch} (hl : l.stackTraces = false) (E : zk_E) : zk_C l E (zk_VT E) yX10_reckon cX10_reckon 2 (none) rm_X10_reckon (sp_X10_reckon E) := by
  refine zk_meth (M := M_X10_reckon) (C := C_X10_reckon E) hl (by decide +kernel) rfl (fun _ _ => rfl) (zk_VT_ok E) MO_X10_reckon TO_X10_reckon THo_X10_reckon ?_ (vc_X10_reckon E)
  exact fun p e s m args below meth c X pc n mc ms sp2 h => by
    have h2 := zk_lka_mem h
    simp only [List.mem_cons, List.not_mem_nil, or_false, Prod.mk.injEq] at h2
    rcases h2 with ⟨rfl, rfl, rfl, rfl, rfl⟩ | ⟨rfl, rfl, rfl, rfl, rfl⟩ | ⟨rfl, rfl, rfl, rfl, rfl⟩ | ⟨rfl, rfl, rfl, rfl, rfl⟩ | ⟨rfl, rfl, rfl, rfl, rfl⟩
    · exact zk_coV (idx := 326) X (ct_X8_reckonExits hl E) (List.forall_mem_cons.mpr ⟨zk_wi 114 (by decide +kernel) rfl, List.forall_mem_cons.mpr ⟨zk_wi 115 (by decide +kernel) rfl, List.forall_mem_cons.mpr ⟨zk_wi 116 (by decide +kernel) rfl, List.forall_mem_cons.mpr ⟨zk_wi 4 (by decide +kernel) rfl, List.forall_mem_cons.mpr ⟨zk_wi 117 (by decide +kernel) rfl, fun _ h => absurd h List.not_mem_nil⟩⟩⟩⟩⟩) (fun ci h => by
      have h := Nat.eq_of_beq_eq_true h
      subst h
      exact ⟨_, _, rfl⟩) (by decide +kernel) ⟨by decide, by decide, by decide +kernel⟩ ⟨by decide, by decide⟩
    · exact zk_coV (idx := 330) X (ct_X8_reckonRoom hl E) (List.forall_mem_cons.mpr ⟨zk_wi 146 (by decide +kernel) rfl, List.forall_mem_cons.mpr ⟨zk_wi 147 (by decide +kernel) rfl, List.forall_mem_cons.mpr ⟨zk_wi 148 (by decide +kernel) rfl, List.forall_mem_cons.mpr ⟨zk_wi 4 (by decide +kernel) rfl, List.forall_mem_cons.mpr ⟨zk_wi 149 (by decide +kernel) rfl, fun _ h => absurd h List.not_mem_nil⟩⟩⟩⟩⟩) (fun ci h => by
      have h := Nat.eq_of_beq_eq_true h
      subst h
      exact ⟨_, _, rfl⟩) (by decide +kernel) ⟨by decide, by decide, by decide +kernel⟩ ⟨by decide, by decide⟩
    · exact zk_coV (idx := 334) X (ct_X8_reckonDepths hl E) (List.forall_mem_cons.mpr ⟨zk_wi 161 (by decide +kernel) rfl, List.forall_mem_cons.mpr ⟨zk_wi 162 (by decide +kernel) rfl, List.forall_mem_cons.mpr ⟨zk_wi 163 (by decide +kernel) rfl, List.forall_mem_cons.mpr ⟨zk_wi 4 (by decide +kernel) rfl, List.forall_mem_cons.mpr ⟨zk_wi 164 (by decide +kernel) rfl, fun _ h => absurd h List.not_mem_nil⟩⟩⟩⟩⟩) (fun ci h => by
      have h := Nat.eq_of_beq_eq_true h
      subst h
      exact ⟨_, _, rfl⟩) (by decide +kernel) ⟨by decide, by decide, by decide +kernel⟩ ⟨by decide, by decide⟩
    · exact zk_coV (idx := 337) X (ct_X8_reckonLoads hl E) (List.forall_mem_cons.mpr ⟨zk_wi 175 (by decide +kernel) rfl, List.forall_mem_cons.mpr ⟨zk_wi 176 (by decide +kernel) rfl, List.forall_mem_cons.mpr ⟨zk_wi 177 (by decide +kernel) rfl, List.forall_mem_cons.mpr ⟨zk_wi 4 (by decide +kernel) rfl, List.forall_mem_cons.mpr ⟨zk_wi 178 (by decide +kernel) rfl, fun _ h => absurd h List.not_mem_nil⟩⟩⟩⟩⟩) (fun ci h => by
      have h := Nat.eq_of_beq_eq_true h
      subst h
      exact ⟨_, _, rfl⟩) (by decide +kernel) ⟨by decide, by decide, by decide +kernel⟩ ⟨by decide, by decide⟩
    · exact zk_coV (idx := 340) X (ct_X3_tellRule hl E) (List.forall_mem_cons.mpr ⟨zk_wi 183 (by decide +kernel) rfl, List.forall_mem_cons.mpr ⟨zk_wi 184 (by decide +kernel) rfl, List.forall_mem_cons.mpr ⟨zk_wi 185 (by decide +kernel) rfl, List.forall_mem_cons.mpr ⟨zk_wi 6 (by decide +kernel) rfl, List.forall_mem_cons.mpr ⟨zk_wi 186 (by decide +kernel) rfl, fun _ h => absurd h List.not_mem_nil⟩⟩⟩⟩⟩) (fun ci h => by
      have h := Nat.eq_of_beq_eq_true h
      subst h
      exact ⟨_, _, rfl⟩) (by decide +kernel) ⟨by decide, by decide, by decide +kernel⟩ ⟨by decide, by decide⟩


