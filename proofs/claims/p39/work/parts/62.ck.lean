/-! the class: shorten, reckonExits -/
theorem XR.cn {E : zk_E} {sz : Nat} {J1 N1 J2 N2 J N : Nat → Nat → Int32} {Q : Nat → Nat → Option Nat} {O : zk_Hp} {U U2 : zk_U} {fl : Nat → Int32} (h : XR E sz (J1, N1, Q, O, U) J N fl) (hJ : J2 1 = J1 1) (hN : N2 6 = N1 6) : XR E sz (J2, N2, Q, O, U2) J N fl := by
  obtain ⟨h1, h2⟩ := h
  refine ⟨?_, h2⟩
  unfold XA at h1 ⊢
  dsimp only at h1 ⊢
  rw [hJ, hN]
  exact h1
def nv (J N : Nat → Nat → Int32) (v : Nat → Nat) (i : Nat) : Nat → Nat := updN (updN v (2 * i) (FF J N v (2 * i))) (2 * i + 1) (if et N i = -1 then INF else FF J N v (2 * i + 1))
def sb (J N : Nat → Nat → Int32) (v : Nat → Nat) (i : Nat) : Bool := decide (FF J N v (2 * i) < v (2 * i)) || (decide (¬ et N i = -1) && decide (FF J N v (2 * i + 1) < v (2 * i + 1)))
def sp_X8_shorten (E : zk_E) : zk_Sp zk_S := fun av σ sz P PX => match av with
  | [.ref a, .ref p, .int ix, .ref x] => a = zk_ad E 7 ∧ p = zk_ad E 1 ∧ ∃ J N fl v B i, MI J N ∧ XR E sz σ J N fl ∧ WV J N σ.2.1 v B ∧ B ≤ 9000000 ∧ i < 50 ∧ ix = nI i ∧ xat σ.2.2.1 i = some x ∧ eo N i ∧ P (some (.int (zk_b (sb J N v i)))) (σ.1, zk_un (zk_un σ.2.1 8 (upd (σ.2.1 8) i (wi (nv J N v i (2 * i))))) 9 (upd (σ.2.1 9) i (wi (nv J N v i (2 * i + 1)))), σ.2.2) sz
  | _ => False
theorem spe_X8_shorten (E : zk_E) (a : Nat) (p : Nat) (ix : Int32) (x : Nat) (σ : zk_S) (sz : Nat) (P : zk_P zk_S) (PX : zk_X zk_S) : sp_X8_shorten E [.ref a, .ref p, .int ix, .ref x] σ sz P PX = (a = zk_ad E 7 ∧ p = zk_ad E 1 ∧ ∃ J N fl v B i, MI J N ∧ XR E sz σ J N fl ∧ WV J N σ.2.1 v B ∧ B ≤ 9000000 ∧ i < 50 ∧ ix = nI i ∧ xat σ.2.2.1 i = some x ∧ eo N i ∧ P (some (.int (zk_b (sb J N v i)))) (σ.1, zk_un (zk_un σ.2.1 8 (upd (σ.2.1 8) i (wi (nv J N v i (2 * i))))) 9 (upd (σ.2.1 9) i (wi (nv J N v i (2 * i + 1)))), σ.2.2) sz) := propext Iff.rfl
def C_X8_shorten (E : zk_E) : zk_Cl zk_S := zk_lka [(19, 5, 0, 0, zk_rv (zk_VT E) (fun ci => Nat.beq ci 7) (sp_X8_wayOn E)), (43, 5, 0, 0, zk_rv (zk_VT E) (fun ci => Nat.beq ci 7) (sp_X8_wayOn E)), (56, 2, 0, 0, sp_X8_isLess E), (70, 2, 0, 0, sp_X8_isLess E)]
theorem r_X8_shorten (E : zk_E) (P : zk_P zk_S) (PX : zk_X zk_S) (K : Nat → zk_L → List Value → zk_W zk_S → Prop) : (∀ (n : Nat) (l0 l1 l2 l4 l5 l6 : Option Value) (y3 : Value) (r : List Value) (σ : zk_S) (sz k c : Nat), zk_run E (zk_VT E) M_X8_shorten (C_X8_shorten E) P PX K (n + 1) 0 [l0, l1, l2, some y3, l4, l5, l6] r (σ, sz, k, c) = (zk_isr y3 ∧ zk_run E (zk_VT E) M_X8_shorten (C_X8_shorten E) P PX K n 1 [l0, l1, l2, some y3, l4, l5, l6] (y3 :: r) (σ, sz, k, c))) ∧
  (∀ (n : Nat) (l0 l1 l2 l3 l4 l5 l6 : Option Value) (a : Nat) (r : List Value) (σ : zk_S) (sz k c : Nat), zk_run E (zk_VT E) M_X8_shorten (C_X8_shorten E) P PX K (n + 1) 1 [l0, l1, l2, l3, l4, l5, l6] (.ref a :: r) (σ, sz, k, c) = zk_fld (zk_view E σ a) [1, 6] 1 (fun v => zk_run E (zk_VT E) M_X8_shorten (C_X8_shorten E) P PX K n 4 [l0, l1, l2, l3, l4, l5, l6] (v :: r) (σ, sz, k, c))) ∧
  (∀ (n : Nat) (l0 l1 l2 l3 l4 l5 l6 : Option Value) (v : Value) (r : List Value) (σ : zk_S) (sz k c : Nat), zk_run E (zk_VT E) M_X8_shorten (C_X8_shorten E) P PX K (n + 1) 4 [l0, l1, l2, l3, l4, l5, l6] (v :: r) (σ, sz, k, c) = (zk_isr v ∧ (¬ v = .null → zk_run E (zk_VT E) M_X8_shorten (C_X8_shorten E) P PX K n 11 [l0, l1, l2, l3, l4, l5, l6] r (σ, sz, k, c)) ∧ (¬ (¬ v = .null) → zk_run E (zk_VT E) M_X8_shorten (C_X8_shorten E) P PX K n 7 [l0, l1, l2, l3, l4, l5, l6] r (σ, sz, k, c)))) ∧
  (∀ (n : Nat) (l0 l1 l2 l3 l4 l5 l6 : Option Value)  (r : List Value) (σ : zk_S) (sz k c : Nat), zk_run E (zk_VT E) M_X8_shorten (C_X8_shorten E) P PX K (n + 1) 7 [l0, l1, l2, l3, l4, l5, l6] r (σ, sz, k, c) = zk_run E (zk_VT E) M_X8_shorten (C_X8_shorten E) P PX K n 8 [l0, l1, l2, l3, l4, l5, l6] (.int (0) :: r) (σ, sz, k, c)) ∧
  (∀ (n : Nat) (l0 l1 l2 l3 l4 l5 l6 : Option Value)  (r : List Value) (σ : zk_S) (sz k c : Nat), zk_run E (zk_VT E) M_X8_shorten (C_X8_shorten E) P PX K (n + 1) 8 [l0, l1, l2, l3, l4, l5, l6] r (σ, sz, k, c) = zk_run E (zk_VT E) M_X8_shorten (C_X8_shorten E) P PX K n 22 [l0, l1, l2, l3, l4, l5, l6] r (σ, sz, k, c)) ∧
  (∀ (n : Nat) (l1 l2 l3 l4 l5 l6 : Option Value) (y0 : Value) (r : List Value) (σ : zk_S) (sz k c : Nat), zk_run E (zk_VT E) M_X8_shorten (C_X8_shorten E) P PX K (n + 1) 11 [some y0, l1, l2, l3, l4, l5, l6] r (σ, sz, k, c) = (zk_isr y0 ∧ zk_run E (zk_VT E) M_X8_shorten (C_X8_shorten E) P PX K n 12 [some y0, l1, l2, l3, l4, l5, l6] (y0 :: r) (σ, sz, k, c))) ∧
  (∀ (n : Nat) (l0 l2 l3 l4 l5 l6 : Option Value) (y1 : Value) (r : List Value) (σ : zk_S) (sz k c : Nat), zk_run E (zk_VT E) M_X8_shorten (C_X8_shorten E) P PX K (n + 1) 12 [l0, some y1, l2, l3, l4, l5, l6] r (σ, sz, k, c) = (zk_isr y1 ∧ zk_run E (zk_VT E) M_X8_shorten (C_X8_shorten E) P PX K n 13 [l0, some y1, l2, l3, l4, l5, l6] (y1 :: r) (σ, sz, k, c))) ∧
  (∀ (n : Nat) (l0 l1 l3 l4 l5 l6 : Option Value) (y2 : Int32) (r : List Value) (σ : zk_S) (sz k c : Nat), zk_run E (zk_VT E) M_X8_shorten (C_X8_shorten E) P PX K (n + 1) 13 [l0, l1, some (.int y2), l3, l4, l5, l6] r (σ, sz, k, c) = zk_run E (zk_VT E) M_X8_shorten (C_X8_shorten E) P PX K n 14 [l0, l1, some (.int y2), l3, l4, l5, l6] (.int y2 :: r) (σ, sz, k, c)) ∧
  (∀ (n : Nat) (l0 l1 l2 l4 l5 l6 : Option Value) (y3 : Value) (r : List Value) (σ : zk_S) (sz k c : Nat), zk_run E (zk_VT E) M_X8_shorten (C_X8_shorten E) P PX K (n + 1) 14 [l0, l1, l2, some y3, l4, l5, l6] r (σ, sz, k, c) = (zk_isr y3 ∧ zk_run E (zk_VT E) M_X8_shorten (C_X8_shorten E) P PX K n 15 [l0, l1, l2, some y3, l4, l5, l6] (y3 :: r) (σ, sz, k, c))) ∧
  (∀ (n : Nat) (l0 l1 l2 l4 l5 l6 : Option Value) (y3 : Value) (r : List Value) (σ : zk_S) (sz k c : Nat), zk_run E (zk_VT E) M_X8_shorten (C_X8_shorten E) P PX K (n + 1) 15 [l0, l1, l2, some y3, l4, l5, l6] r (σ, sz, k, c) = (zk_isr y3 ∧ zk_run E (zk_VT E) M_X8_shorten (C_X8_shorten E) P PX K n 16 [l0, l1, l2, some y3, l4, l5, l6] (y3 :: r) (σ, sz, k, c))) ∧
  (∀ (n : Nat) (l0 l1 l2 l3 l4 l5 l6 : Option Value) (a : Nat) (r : List Value) (σ : zk_S) (sz k c : Nat), zk_run E (zk_VT E) M_X8_shorten (C_X8_shorten E) P PX K (n + 1) 16 [l0, l1, l2, l3, l4, l5, l6] (.ref a :: r) (σ, sz, k, c) = zk_fld (zk_view E σ a) [1, 6] 1 (fun v => zk_run E (zk_VT E) M_X8_shorten (C_X8_shorten E) P PX K n 19 [l0, l1, l2, l3, l4, l5, l6] (v :: r) (σ, sz, k, c))) ∧
  (∀ (n : Nat) (l0 l1 l2 l3 l4 l5 l6 : Option Value) (v0 : Value) (v1 : Value) (v2 : Value) (v3 : Value) (v4 : Value)  (σ : zk_S) (sz k c : Nat), zk_run E (zk_VT E) M_X8_shorten (C_X8_shorten E) P PX K (n + 1) 19 [l0, l1, l2, l3, l4, l5, l6] [v0, v1, v2, v3, v4] (σ, sz, k, c) = (k + 0 ≤ 0 ∧ c + 0 ≤ 0 ∧ (zk_rv (zk_VT E) (fun ci => Nat.beq ci 7) (sp_X8_wayOn E)) [v4, v3, v2, v1, v0] σ sz (fun v s2 z2 => zk_run E (zk_VT E) M_X8_shorten (C_X8_shorten E) P PX K n 22 [l0, l1, l2, l3, l4, l5, l6] (zk_psh v []) (s2, z2, k + 0, c + 0)) (fun X s2 z2 => PX X s2 z2))) ∧
  (∀ (n : Nat) (l0 l1 l2 l3 l4 l5 l6 : Option Value) (x : Int32) (r : List Value) (σ : zk_S) (sz k c : Nat), zk_run E (zk_VT E) M_X8_shorten (C_X8_shorten E) P PX K (n + 1) 22 [l0, l1, l2, l3, l4, l5, l6] (.int x :: r) (σ, sz, k, c) = zk_run E (zk_VT E) M_X8_shorten (C_X8_shorten E) P PX K n 24 [l0, l1, l2, zk_kl l3, some (.int x), l5, l6] r (σ, sz, k, c)) ∧
  (∀ (n : Nat) (l0 l1 l2 l4 l5 l6 : Option Value) (y3 : Value) (r : List Value) (σ : zk_S) (sz k c : Nat), zk_run E (zk_VT E) M_X8_shorten (C_X8_shorten E) P PX K (n + 1) 24 [l0, l1, l2, some y3, l4, l5, l6] r (σ, sz, k, c) = (zk_isr y3 ∧ zk_run E (zk_VT E) M_X8_shorten (C_X8_shorten E) P PX K n 25 [l0, l1, l2, some y3, l4, l5, l6] (y3 :: r) (σ, sz, k, c))) ∧
  (∀ (n : Nat) (l0 l1 l2 l3 l4 l5 l6 : Option Value) (a : Nat) (r : List Value) (σ : zk_S) (sz k c : Nat), zk_run E (zk_VT E) M_X8_shorten (C_X8_shorten E) P PX K (n + 1) 25 [l0, l1, l2, l3, l4, l5, l6] (.ref a :: r) (σ, sz, k, c) = zk_fld (zk_view E σ a) [1, 6] 1 (fun v => zk_run E (zk_VT E) M_X8_shorten (C_X8_shorten E) P PX K n 28 [l0, l1, l2, l3, l4, l5, l6] (v :: r) (σ, sz, k, c))) ∧
  (∀ (n : Nat) (l0 l1 l2 l3 l4 l5 l6 : Option Value) (v : Value) (r : List Value) (σ : zk_S) (sz k c : Nat), zk_run E (zk_VT E) M_X8_shorten (C_X8_shorten E) P PX K (n + 1) 28 [l0, l1, l2, l3, l4, l5, l6] (v :: r) (σ, sz, k, c) = (zk_isr v ∧ (¬ v = .null → zk_run E (zk_VT E) M_X8_shorten (C_X8_shorten E) P PX K n 35 [l0, l1, l2, l3, l4, l5, l6] r (σ, sz, k, c)) ∧ (¬ (¬ v = .null) → zk_run E (zk_VT E) M_X8_shorten (C_X8_shorten E) P PX K n 31 [l0, l1, l2, l3, l4, l5, l6] r (σ, sz, k, c)))) ∧
  (∀ (n : Nat) (l0 l1 l2 l3 l4 l5 l6 : Option Value)  (r : List Value) (σ : zk_S) (sz k c : Nat), zk_run E (zk_VT E) M_X8_shorten (C_X8_shorten E) P PX K (n + 1) 31 [l0, l1, l2, l3, l4, l5, l6] r (σ, sz, k, c) = zk_run E (zk_VT E) M_X8_shorten (C_X8_shorten E) P PX K n 32 [l0, l1, l2, l3, l4, l5, l6] (.int ((-1)) :: r) (σ, sz, k, c)) ∧
  (∀ (n : Nat) (l0 l1 l2 l3 l4 l5 l6 : Option Value)  (r : List Value) (σ : zk_S) (sz k c : Nat), zk_run E (zk_VT E) M_X8_shorten (C_X8_shorten E) P PX K (n + 1) 32 [l0, l1, l2, l3, l4, l5, l6] r (σ, sz, k, c) = zk_run E (zk_VT E) M_X8_shorten (C_X8_shorten E) P PX K n 46 [l0, l1, l2, l3, l4, l5, l6] r (σ, sz, k, c)) ∧
  (∀ (n : Nat) (l1 l2 l3 l4 l5 l6 : Option Value) (y0 : Value) (r : List Value) (σ : zk_S) (sz k c : Nat), zk_run E (zk_VT E) M_X8_shorten (C_X8_shorten E) P PX K (n + 1) 35 [some y0, l1, l2, l3, l4, l5, l6] r (σ, sz, k, c) = (zk_isr y0 ∧ zk_run E (zk_VT E) M_X8_shorten (C_X8_shorten E) P PX K n 36 [some y0, l1, l2, l3, l4, l5, l6] (y0 :: r) (σ, sz, k, c))) ∧
  (∀ (n : Nat) (l0 l2 l3 l4 l5 l6 : Option Value) (y1 : Value) (r : List Value) (σ : zk_S) (sz k c : Nat), zk_run E (zk_VT E) M_X8_shorten (C_X8_shorten E) P PX K (n + 1) 36 [l0, some y1, l2, l3, l4, l5, l6] r (σ, sz, k, c) = (zk_isr y1 ∧ zk_run E (zk_VT E) M_X8_shorten (C_X8_shorten E) P PX K n 37 [l0, some y1, l2, l3, l4, l5, l6] (y1 :: r) (σ, sz, k, c))) ∧
  (∀ (n : Nat) (l0 l1 l3 l4 l5 l6 : Option Value) (y2 : Int32) (r : List Value) (σ : zk_S) (sz k c : Nat), zk_run E (zk_VT E) M_X8_shorten (C_X8_shorten E) P PX K (n + 1) 37 [l0, l1, some (.int y2), l3, l4, l5, l6] r (σ, sz, k, c) = zk_run E (zk_VT E) M_X8_shorten (C_X8_shorten E) P PX K n 38 [l0, l1, some (.int y2), l3, l4, l5, l6] (.int y2 :: r) (σ, sz, k, c)) ∧
  (∀ (n : Nat) (l0 l1 l2 l4 l5 l6 : Option Value) (y3 : Value) (r : List Value) (σ : zk_S) (sz k c : Nat), zk_run E (zk_VT E) M_X8_shorten (C_X8_shorten E) P PX K (n + 1) 38 [l0, l1, l2, some y3, l4, l5, l6] r (σ, sz, k, c) = (zk_isr y3 ∧ zk_run E (zk_VT E) M_X8_shorten (C_X8_shorten E) P PX K n 39 [l0, l1, l2, some y3, l4, l5, l6] (y3 :: r) (σ, sz, k, c))) ∧
  (∀ (n : Nat) (l0 l1 l2 l4 l5 l6 : Option Value) (y3 : Value) (r : List Value) (σ : zk_S) (sz k c : Nat), zk_run E (zk_VT E) M_X8_shorten (C_X8_shorten E) P PX K (n + 1) 39 [l0, l1, l2, some y3, l4, l5, l6] r (σ, sz, k, c) = (zk_isr y3 ∧ zk_run E (zk_VT E) M_X8_shorten (C_X8_shorten E) P PX K n 40 [l0, l1, l2, some y3, l4, l5, l6] (y3 :: r) (σ, sz, k, c))) ∧
  (∀ (n : Nat) (l0 l1 l2 l3 l4 l5 l6 : Option Value) (a : Nat) (r : List Value) (σ : zk_S) (sz k c : Nat), zk_run E (zk_VT E) M_X8_shorten (C_X8_shorten E) P PX K (n + 1) 40 [l0, l1, l2, l3, l4, l5, l6] (.ref a :: r) (σ, sz, k, c) = zk_fld (zk_view E σ a) [1, 6] 0 (fun v => zk_run E (zk_VT E) M_X8_shorten (C_X8_shorten E) P PX K n 43 [l0, l1, l2, l3, l4, l5, l6] (v :: r) (σ, sz, k, c))) ∧
  (∀ (n : Nat) (l0 l1 l2 l3 l4 l5 l6 : Option Value) (v0 : Value) (v1 : Value) (v2 : Value) (v3 : Value) (v4 : Value)  (σ : zk_S) (sz k c : Nat), zk_run E (zk_VT E) M_X8_shorten (C_X8_shorten E) P PX K (n + 1) 43 [l0, l1, l2, l3, l4, l5, l6] [v0, v1, v2, v3, v4] (σ, sz, k, c) = (k + 0 ≤ 0 ∧ c + 0 ≤ 0 ∧ (zk_rv (zk_VT E) (fun ci => Nat.beq ci 7) (sp_X8_wayOn E)) [v4, v3, v2, v1, v0] σ sz (fun v s2 z2 => zk_run E (zk_VT E) M_X8_shorten (C_X8_shorten E) P PX K n 46 [l0, l1, l2, l3, l4, l5, l6] (zk_psh v []) (s2, z2, k + 0, c + 0)) (fun X s2 z2 => PX X s2 z2))) ∧
  (∀ (n : Nat) (l0 l1 l2 l3 l4 l5 l6 : Option Value) (x : Int32) (r : List Value) (σ : zk_S) (sz k c : Nat), zk_run E (zk_VT E) M_X8_shorten (C_X8_shorten E) P PX K (n + 1) 46 [l0, l1, l2, l3, l4, l5, l6] (.int x :: r) (σ, sz, k, c) = zk_run E (zk_VT E) M_X8_shorten (C_X8_shorten E) P PX K n 48 [l0, l1, l2, l3, zk_kl l4, some (.int x), l6] r (σ, sz, k, c)) ∧
  (∀ (n : Nat) (l0 l1 l2 l3 l5 l6 : Option Value) (y4 : Int32) (r : List Value) (σ : zk_S) (sz k c : Nat), zk_run E (zk_VT E) M_X8_shorten (C_X8_shorten E) P PX K (n + 1) 48 [l0, l1, l2, l3, some (.int y4), l5, l6] r (σ, sz, k, c) = zk_run E (zk_VT E) M_X8_shorten (C_X8_shorten E) P PX K n 50 [l0, l1, l2, l3, some (.int y4), l5, l6] (.int y4 :: r) (σ, sz, k, c)) ∧
  (∀ (n : Nat) (l1 l2 l3 l4 l5 l6 : Option Value) (y0 : Value) (r : List Value) (σ : zk_S) (sz k c : Nat), zk_run E (zk_VT E) M_X8_shorten (C_X8_shorten E) P PX K (n + 1) 50 [some y0, l1, l2, l3, l4, l5, l6] r (σ, sz, k, c) = (zk_isr y0 ∧ zk_run E (zk_VT E) M_X8_shorten (C_X8_shorten E) P PX K n 51 [some y0, l1, l2, l3, l4, l5, l6] (y0 :: r) (σ, sz, k, c))) ∧
  (∀ (n : Nat) (l0 l1 l2 l3 l4 l5 l6 : Option Value) (a : Nat) (r : List Value) (σ : zk_S) (sz k c : Nat), zk_run E (zk_VT E) M_X8_shorten (C_X8_shorten E) P PX K (n + 1) 51 [l0, l1, l2, l3, l4, l5, l6] (.ref a :: r) (σ, sz, k, c) = zk_fld (zk_view E σ a) [7] 0 (fun v => zk_run E (zk_VT E) M_X8_shorten (C_X8_shorten E) P PX K n 54 [l0, l1, l2, l3, l4, l5, l6] (v :: r) (σ, sz, k, c))) ∧
  (∀ (n : Nat) (l0 l1 l3 l4 l5 l6 : Option Value) (y2 : Int32) (r : List Value) (σ : zk_S) (sz k c : Nat), zk_run E (zk_VT E) M_X8_shorten (C_X8_shorten E) P PX K (n + 1) 54 [l0, l1, some (.int y2), l3, l4, l5, l6] r (σ, sz, k, c) = zk_run E (zk_VT E) M_X8_shorten (C_X8_shorten E) P PX K n 55 [l0, l1, some (.int y2), l3, l4, l5, l6] (.int y2 :: r) (σ, sz, k, c)) ∧
  (∀ (n : Nat) (l0 l1 l2 l3 l4 l5 l6 : Option Value) (a : Nat) (i : Int32) (r : List Value) (σ : zk_S) (sz k c : Nat), zk_run E (zk_VT E) M_X8_shorten (C_X8_shorten E) P PX K (n + 1) 55 [l0, l1, l2, l3, l4, l5, l6] (.int i :: .ref a :: r) (σ, sz, k, c) = zk_ild (zk_view E σ a) (zk_ar E 0) i (fun x => zk_run E (zk_VT E) M_X8_shorten (C_X8_shorten E) P PX K n 56 [l0, l1, l2, l3, l4, l5, l6] (.int x :: r) (σ, sz, k, c))) ∧
  (∀ (n : Nat) (l0 l1 l2 l3 l4 l5 l6 : Option Value) (v0 : Value) (v1 : Value)  (σ : zk_S) (sz k c : Nat), zk_run E (zk_VT E) M_X8_shorten (C_X8_shorten E) P PX K (n + 1) 56 [l0, l1, l2, l3, l4, l5, l6] [v0, v1] (σ, sz, k, c) = (k + 0 ≤ 0 ∧ c + 0 ≤ 0 ∧ (sp_X8_isLess E) [v1, v0] σ sz (fun v s2 z2 => zk_run E (zk_VT E) M_X8_shorten (C_X8_shorten E) P PX K n 59 [l0, l1, l2, l3, l4, l5, l6] (zk_psh v []) (s2, z2, k + 0, c + 0)) (fun X s2 z2 => PX X s2 z2))) ∧
  (∀ (n : Nat) (l0 l1 l2 l3 l4 l5 l6 : Option Value) (x : Int32) (r : List Value) (σ : zk_S) (sz k c : Nat), zk_run E (zk_VT E) M_X8_shorten (C_X8_shorten E) P PX K (n + 1) 59 [l0, l1, l2, l3, l4, l5, l6] (.int x :: r) (σ, sz, k, c) = ((¬ x = 0 → zk_run E (zk_VT E) M_X8_shorten (C_X8_shorten E) P PX K n 76 [l0, l1, l2, l3, l4, l5, l6] r (σ, sz, k, c)) ∧ (¬ (¬ x = 0) → zk_run E (zk_VT E) M_X8_shorten (C_X8_shorten E) P PX K n 62 [l0, l1, l2, l3, l4, l5, l6] r (σ, sz, k, c)))) ∧
  (∀ (n : Nat) (l0 l1 l2 l3 l4 l6 : Option Value) (y5 : Int32) (r : List Value) (σ : zk_S) (sz k c : Nat), zk_run E (zk_VT E) M_X8_shorten (C_X8_shorten E) P PX K (n + 1) 62 [l0, l1, l2, l3, l4, some (.int y5), l6] r (σ, sz, k, c) = zk_run E (zk_VT E) M_X8_shorten (C_X8_shorten E) P PX K n 64 [l0, l1, l2, l3, l4, some (.int y5), l6] (.int y5 :: r) (σ, sz, k, c)) ∧
  (∀ (n : Nat) (l1 l2 l3 l4 l5 l6 : Option Value) (y0 : Value) (r : List Value) (σ : zk_S) (sz k c : Nat), zk_run E (zk_VT E) M_X8_shorten (C_X8_shorten E) P PX K (n + 1) 64 [some y0, l1, l2, l3, l4, l5, l6] r (σ, sz, k, c) = (zk_isr y0 ∧ zk_run E (zk_VT E) M_X8_shorten (C_X8_shorten E) P PX K n 65 [some y0, l1, l2, l3, l4, l5, l6] (y0 :: r) (σ, sz, k, c))) ∧
  (∀ (n : Nat) (l0 l1 l2 l3 l4 l5 l6 : Option Value) (a : Nat) (r : List Value) (σ : zk_S) (sz k c : Nat), zk_run E (zk_VT E) M_X8_shorten (C_X8_shorten E) P PX K (n + 1) 65 [l0, l1, l2, l3, l4, l5, l6] (.ref a :: r) (σ, sz, k, c) = zk_fld (zk_view E σ a) [7] 1 (fun v => zk_run E (zk_VT E) M_X8_shorten (C_X8_shorten E) P PX K n 68 [l0, l1, l2, l3, l4, l5, l6] (v :: r) (σ, sz, k, c))) ∧
  (∀ (n : Nat) (l0 l1 l3 l4 l5 l6 : Option Value) (y2 : Int32) (r : List Value) (σ : zk_S) (sz k c : Nat), zk_run E (zk_VT E) M_X8_shorten (C_X8_shorten E) P PX K (n + 1) 68 [l0, l1, some (.int y2), l3, l4, l5, l6] r (σ, sz, k, c) = zk_run E (zk_VT E) M_X8_shorten (C_X8_shorten E) P PX K n 69 [l0, l1, some (.int y2), l3, l4, l5, l6] (.int y2 :: r) (σ, sz, k, c)) ∧
  (∀ (n : Nat) (l0 l1 l2 l3 l4 l5 l6 : Option Value) (a : Nat) (i : Int32) (r : List Value) (σ : zk_S) (sz k c : Nat), zk_run E (zk_VT E) M_X8_shorten (C_X8_shorten E) P PX K (n + 1) 69 [l0, l1, l2, l3, l4, l5, l6] (.int i :: .ref a :: r) (σ, sz, k, c) = zk_ild (zk_view E σ a) (zk_ar E 0) i (fun x => zk_run E (zk_VT E) M_X8_shorten (C_X8_shorten E) P PX K n 70 [l0, l1, l2, l3, l4, l5, l6] (.int x :: r) (σ, sz, k, c))) ∧
  (∀ (n : Nat) (l0 l1 l2 l3 l4 l5 l6 : Option Value) (v0 : Value) (v1 : Value)  (σ : zk_S) (sz k c : Nat), zk_run E (zk_VT E) M_X8_shorten (C_X8_shorten E) P PX K (n + 1) 70 [l0, l1, l2, l3, l4, l5, l6] [v0, v1] (σ, sz, k, c) = (k + 0 ≤ 0 ∧ c + 0 ≤ 0 ∧ (sp_X8_isLess E) [v1, v0] σ sz (fun v s2 z2 => zk_run E (zk_VT E) M_X8_shorten (C_X8_shorten E) P PX K n 73 [l0, l1, l2, l3, l4, l5, l6] (zk_psh v []) (s2, z2, k + 0, c + 0)) (fun X s2 z2 => PX X s2 z2))) ∧
  (∀ (n : Nat) (l0 l1 l2 l3 l4 l5 l6 : Option Value) (x : Int32) (r : List Value) (σ : zk_S) (sz k c : Nat), zk_run E (zk_VT E) M_X8_shorten (C_X8_shorten E) P PX K (n + 1) 73 [l0, l1, l2, l3, l4, l5, l6] (.int x :: r) (σ, sz, k, c) = ((x = 0 → zk_run E (zk_VT E) M_X8_shorten (C_X8_shorten E) P PX K n 80 [l0, l1, l2, l3, l4, l5, l6] r (σ, sz, k, c)) ∧ (¬ (x = 0) → zk_run E (zk_VT E) M_X8_shorten (C_X8_shorten E) P PX K n 76 [l0, l1, l2, l3, l4, l5, l6] r (σ, sz, k, c)))) := ⟨by intros; rfl, by intros; rfl, by intros; rfl, by intros; rfl, by intros; rfl, by intros; rfl, by intros; rfl, by intros; rfl, by intros; rfl, by intros; rfl, by intros; rfl, by intros; rfl, by intros; rfl, by intros; rfl, by intros; rfl, by intros; rfl, by intros; rfl, by intros; rfl, by intros; rfl, by intros; rfl, by intros; rfl, by intros; rfl, by intros; rfl, by intros; rfl, by intros; rfl, by intros; rfl, by intros; rfl, by intros; rfl, by intros; rfl, by intros; rfl, by intros; rfl, by intros; rfl, by intros; rfl, by intros; rfl, by intros; rfl, by intros; rfl, by intros; rfl, by intros; rfl, by intros; rfl, by intros; rfl⟩
theorem r_X8_shorten_1 (E : zk_E) (P : zk_P zk_S) (PX : zk_X zk_S) (K : Nat → zk_L → List Value → zk_W zk_S → Prop) : (∀ (n : Nat) (l0 l1 l2 l3 l4 l5 l6 : Option Value)  (r : List Value) (σ : zk_S) (sz k c : Nat), zk_run E (zk_VT E) M_X8_shorten (C_X8_shorten E) P PX K (n + 1) 76 [l0, l1, l2, l3, l4, l5, l6] r (σ, sz, k, c) = zk_run E (zk_VT E) M_X8_shorten (C_X8_shorten E) P PX K n 77 [l0, l1, l2, l3, l4, l5, l6] (.int (1) :: r) (σ, sz, k, c)) ∧
  (∀ (n : Nat) (l0 l1 l2 l3 l4 l5 l6 : Option Value)  (r : List Value) (σ : zk_S) (sz k c : Nat), zk_run E (zk_VT E) M_X8_shorten (C_X8_shorten E) P PX K (n + 1) 77 [l0, l1, l2, l3, l4, l5, l6] r (σ, sz, k, c) = zk_run E (zk_VT E) M_X8_shorten (C_X8_shorten E) P PX K n 81 [l0, l1, l2, l3, l4, l5, l6] r (σ, sz, k, c)) ∧
  (∀ (n : Nat) (l0 l1 l2 l3 l4 l5 l6 : Option Value)  (r : List Value) (σ : zk_S) (sz k c : Nat), zk_run E (zk_VT E) M_X8_shorten (C_X8_shorten E) P PX K (n + 1) 80 [l0, l1, l2, l3, l4, l5, l6] r (σ, sz, k, c) = zk_run E (zk_VT E) M_X8_shorten (C_X8_shorten E) P PX K n 81 [l0, l1, l2, l3, l4, l5, l6] (.int (0) :: r) (σ, sz, k, c)) ∧
  (∀ (n : Nat) (l0 l1 l2 l3 l4 l5 l6 : Option Value) (x : Int32) (r : List Value) (σ : zk_S) (sz k c : Nat), zk_run E (zk_VT E) M_X8_shorten (C_X8_shorten E) P PX K (n + 1) 81 [l0, l1, l2, l3, l4, l5, l6] (.int x :: r) (σ, sz, k, c) = zk_run E (zk_VT E) M_X8_shorten (C_X8_shorten E) P PX K n 83 [l0, l1, l2, l3, l4, zk_kl l5, some (.int x)] r (σ, sz, k, c)) ∧
  (∀ (n : Nat) (l1 l2 l3 l4 l5 l6 : Option Value) (y0 : Value) (r : List Value) (σ : zk_S) (sz k c : Nat), zk_run E (zk_VT E) M_X8_shorten (C_X8_shorten E) P PX K (n + 1) 83 [some y0, l1, l2, l3, l4, l5, l6] r (σ, sz, k, c) = (zk_isr y0 ∧ zk_run E (zk_VT E) M_X8_shorten (C_X8_shorten E) P PX K n 84 [some y0, l1, l2, l3, l4, l5, l6] (y0 :: r) (σ, sz, k, c))) ∧
  (∀ (n : Nat) (l0 l1 l2 l3 l4 l5 l6 : Option Value) (a : Nat) (r : List Value) (σ : zk_S) (sz k c : Nat), zk_run E (zk_VT E) M_X8_shorten (C_X8_shorten E) P PX K (n + 1) 84 [l0, l1, l2, l3, l4, l5, l6] (.ref a :: r) (σ, sz, k, c) = zk_fld (zk_view E σ a) [7] 0 (fun v => zk_run E (zk_VT E) M_X8_shorten (C_X8_shorten E) P PX K n 87 [l0, l1, l2, l3, l4, l5, l6] (v :: r) (σ, sz, k, c))) ∧
  (∀ (n : Nat) (l0 l1 l3 l4 l5 l6 : Option Value) (y2 : Int32) (r : List Value) (σ : zk_S) (sz k c : Nat), zk_run E (zk_VT E) M_X8_shorten (C_X8_shorten E) P PX K (n + 1) 87 [l0, l1, some (.int y2), l3, l4, l5, l6] r (σ, sz, k, c) = zk_run E (zk_VT E) M_X8_shorten (C_X8_shorten E) P PX K n 88 [l0, l1, some (.int y2), l3, l4, l5, l6] (.int y2 :: r) (σ, sz, k, c)) ∧
  (∀ (n : Nat) (l0 l1 l2 l3 l5 l6 : Option Value) (y4 : Int32) (r : List Value) (σ : zk_S) (sz k c : Nat), zk_run E (zk_VT E) M_X8_shorten (C_X8_shorten E) P PX K (n + 1) 88 [l0, l1, l2, l3, some (.int y4), l5, l6] r (σ, sz, k, c) = zk_run E (zk_VT E) M_X8_shorten (C_X8_shorten E) P PX K n 90 [l0, l1, l2, l3, some (.int y4), l5, l6] (.int y4 :: r) (σ, sz, k, c)) ∧
  (∀ (n : Nat) (l0 l1 l2 l3 l4 l5 l6 : Option Value) (a : Nat) (i x : Int32) (r : List Value) (σ : zk_S) (sz k c : Nat), zk_run E (zk_VT E) M_X8_shorten (C_X8_shorten E) P PX K (n + 1) 90 [l0, l1, l2, l3, l4, l5, l6] (.int x :: .int i :: .ref a :: r) (σ, sz, k, c) = zk_ist (zk_view E σ a) (zk_ar E 0) i x (fun e => zk_wrok E σ a e ∧ zk_run E (zk_VT E) M_X8_shorten (C_X8_shorten E) P PX K n 91 [l0, l1, l2, l3, l4, l5, l6] r (zk_wr E σ a e, sz, k, c))) ∧
  (∀ (n : Nat) (l1 l2 l3 l4 l5 l6 : Option Value) (y0 : Value) (r : List Value) (σ : zk_S) (sz k c : Nat), zk_run E (zk_VT E) M_X8_shorten (C_X8_shorten E) P PX K (n + 1) 91 [some y0, l1, l2, l3, l4, l5, l6] r (σ, sz, k, c) = (zk_isr y0 ∧ zk_run E (zk_VT E) M_X8_shorten (C_X8_shorten E) P PX K n 92 [some y0, l1, l2, l3, l4, l5, l6] (y0 :: r) (σ, sz, k, c))) ∧
  (∀ (n : Nat) (l0 l1 l2 l3 l4 l5 l6 : Option Value) (a : Nat) (r : List Value) (σ : zk_S) (sz k c : Nat), zk_run E (zk_VT E) M_X8_shorten (C_X8_shorten E) P PX K (n + 1) 92 [l0, l1, l2, l3, l4, l5, l6] (.ref a :: r) (σ, sz, k, c) = zk_fld (zk_view E σ a) [7] 1 (fun v => zk_run E (zk_VT E) M_X8_shorten (C_X8_shorten E) P PX K n 95 [l0, l1, l2, l3, l4, l5, l6] (v :: r) (σ, sz, k, c))) ∧
  (∀ (n : Nat) (l0 l1 l3 l4 l5 l6 : Option Value) (y2 : Int32) (r : List Value) (σ : zk_S) (sz k c : Nat), zk_run E (zk_VT E) M_X8_shorten (C_X8_shorten E) P PX K (n + 1) 95 [l0, l1, some (.int y2), l3, l4, l5, l6] r (σ, sz, k, c) = zk_run E (zk_VT E) M_X8_shorten (C_X8_shorten E) P PX K n 96 [l0, l1, some (.int y2), l3, l4, l5, l6] (.int y2 :: r) (σ, sz, k, c)) ∧
  (∀ (n : Nat) (l0 l1 l2 l3 l4 l6 : Option Value) (y5 : Int32) (r : List Value) (σ : zk_S) (sz k c : Nat), zk_run E (zk_VT E) M_X8_shorten (C_X8_shorten E) P PX K (n + 1) 96 [l0, l1, l2, l3, l4, some (.int y5), l6] r (σ, sz, k, c) = zk_run E (zk_VT E) M_X8_shorten (C_X8_shorten E) P PX K n 98 [l0, l1, l2, l3, l4, some (.int y5), l6] (.int y5 :: r) (σ, sz, k, c)) ∧
  (∀ (n : Nat) (l0 l1 l2 l3 l4 l5 l6 : Option Value) (a : Nat) (i x : Int32) (r : List Value) (σ : zk_S) (sz k c : Nat), zk_run E (zk_VT E) M_X8_shorten (C_X8_shorten E) P PX K (n + 1) 98 [l0, l1, l2, l3, l4, l5, l6] (.int x :: .int i :: .ref a :: r) (σ, sz, k, c) = zk_ist (zk_view E σ a) (zk_ar E 0) i x (fun e => zk_wrok E σ a e ∧ zk_run E (zk_VT E) M_X8_shorten (C_X8_shorten E) P PX K n 99 [l0, l1, l2, l3, l4, l5, l6] r (zk_wr E σ a e, sz, k, c))) ∧
  (∀ (n : Nat) (l0 l1 l2 l3 l4 l5 : Option Value) (y6 : Int32) (r : List Value) (σ : zk_S) (sz k c : Nat), zk_run E (zk_VT E) M_X8_shorten (C_X8_shorten E) P PX K (n + 1) 99 [l0, l1, l2, l3, l4, l5, some (.int y6)] r (σ, sz, k, c) = zk_run E (zk_VT E) M_X8_shorten (C_X8_shorten E) P PX K n 101 [l0, l1, l2, l3, l4, l5, some (.int y6)] (.int y6 :: r) (σ, sz, k, c)) ∧
  (∀ (n : Nat) (l0 l1 l2 l3 l4 l5 l6 : Option Value) (x : Int32)  (σ : zk_S) (sz k c : Nat), zk_run E (zk_VT E) M_X8_shorten (C_X8_shorten E) P PX K (n + 1) 101 [l0, l1, l2, l3, l4, l5, l6] [.int x] (σ, sz, k, c) = (zk_nok (some (.boolean)) x ∧ P (some (.int x)) σ sz ∧ k ≤ 0 ∧ c ≤ 0)) ∧
  (∀ (n : Nat) (l0 l1 l2 l3 l4 l5 l6 : Option Value) (r : List Value) (w : zk_W zk_S), zk_go E (zk_VT E) M_X8_shorten (C_X8_shorten E) P PX K n 0 [l0, l1, l2, l3, l4, l5, l6] r w = zk_run E (zk_VT E) M_X8_shorten (C_X8_shorten E) P PX K (n + 1) 0 [l0, l1, l2, l3, l4, l5, l6] r w) := ⟨by intros; rfl, by intros; rfl, by intros; rfl, by intros; rfl, by intros; rfl, by intros; rfl, by intros; rfl, by intros; rfl, by intros; rfl, by intros; rfl, by intros; rfl, by intros; rfl, by intros; rfl, by intros; rfl, by intros; rfl, by intros; rfl, by intros; rfl⟩
theorem vc_X8_shorten (E : zk_E) : zk_VC E (zk_VT E) M_X8_shorten (C_X8_shorten E) 7 (sp_X8_shorten E) := by
  intro av σ sz P PX h
  obtain ⟨J, N, Q, O, U⟩ := σ
  unfold sp_X8_shorten at h
  split at h
  case h_2 => exact h.elim
  rename_i a0 p ix x
  obtain ⟨rfl, h⟩ := h
  refine ⟨Nat.le_of_ble_eq_true rfl, fun G hG => ?_⟩
  change G 0 [some (.ref (zk_ad E 7)), some (.ref p), some (.int ix), some (.ref x), none, none, none] [] ((J, N, Q, O, U), sz, 0, 0)
  try dsimp only at h
  obtain ⟨rfl, J1, N1, fl, v, B, i, hmi, hxr, hwv, hB, hi, rfl, hqx, ho, h⟩ := h
  obtain ⟨hMX, hxa, ci, fw, sh, rest, hci, hOx, -, -⟩ := hxr.ex hi hqx
  have hOx : O x = some (cX ci (rq Q (ef N1 i)) (rq Q (et N1 i)) (m_px N1 (2 * i)) (m_py N1 (2 * i)) (nI (steep (2 * i))) fw sh rest) := hOx
  have hx1 := hxa.1
  obtain ⟨r, r1, r2, r3⟩ := ends_e hmi hMX
  have r20 := r1.lt hmi
  obtain ⟨b, hb, hbo, -⟩ := hxr.2.1.room hmi r1
  have hb : Q 2 r = some b := hb
  have hact := act_dir hmi hi hMX ho
  have hgx := m_gx hmi hact.1
  obtain ⟨io1, io2⟩ := into_e N1 i
  have fe : rq Q (ef N1 i) = some b := by unfold rq; rw [r2, if_neg (nI_ne1 (by omega)), n_cl (by omega)]; exact hb
  have hin : vp_in (nI i) 50 := n_in hi (by decide)
  have hcl : (nI i).toNatClampNeg = i := n_cl (by omega)
  obtain ⟨w8, w9⟩ := hwv.1 i hi
  have n0 : nv J1 N1 v i (2 * i) = FF J1 N1 v (2 * i) := by unfold nv; rw [updN_ne _ _ (by omega), updN_self]
  have n1 : nv J1 N1 v i (2 * i + 1) = if et N1 i = -1 then INF else FF J1 N1 v (2 * i + 1) := by unfold nv; rw [updN_self]
  have vI0 := (hwv.2.1 (2 * i)).1
  have vI1 := (hwv.2.1 (2 * i + 1)).1
  rw [n0, n1] at h
  unfold sb at h
  have l0 := w_less_wi (FF_le_INF J1 N1 v (2 * i)) vI0
  have l1 := w_less_wi (FF_le_INF J1 N1 v (2 * i + 1)) vI1
  rw [← l0, ← l1] at h
  rcases r3 with r3 | ⟨q, q1, q2, q3⟩
  · have te : rq Q (et N1 i) = none := by unfold rq; rw [r3, if_pos rfl]
    have f0 : FF J1 N1 v (2 * i) = 0 := by unfold FF; rw [io1, if_pos r3]
    rw [if_pos r3, f0, decide_eq_false (not_not_intro r3), Bool.false_and, Bool.or_false] at h
    have wi0 : wi 0 = 0 := by decide
    have wiI : wi INF = -1 := by decide
    rw [wi0, wiI, ← w8] at h
    have gt : ∀ F : Value → Prop, zk_fld (O x) [1, 6] 1 F = F .null := fun F => by rw [hOx, te]; unfold cX; rcases hci with rfl | rfl <;> simp [zk_fld_o, zk_nth, va_rf_n]
    have wm : w_less (-1) (N 9 i) = false := by unfold w_less; rw [decide_eq_false (by decide)]; rfl
    cases z : w_less 0 (N 8 i) with
    | true =>
      rw [z] at h
      (refine hG 900 _ _ _ _ ?_; simp only [r_X8_shorten, r_X8_shorten_1, zk_kl_none, zk_kl_int, zk_kl_ref, zk_kl_null, zk_kl_long, zk_kl_rf, zk_isr_ref, zk_isr_null, zk_isr_rf9, zk_c1_int, zk_c1_ref, zk_c1_null, zk_c1_rf, zk_psh_some, zk_psh_none, zk_nok_int, zk_nok_bool0, zk_nok_bool1, zk_nok_b, zk_fok_0, zk_fok_1, zk_fok_2, zk_fok_n, zk_fok_rf, zb_f, zb_p, zb_i, zb_a, zb_s, zk_nth_0, zk_nth_s, zk_fld_o, zk_put_o, zk_rv_eq, zk_ri_eq, zk_is_o, List.mem_cons, List.not_mem_nil, or_false, false_or, or_true, true_or, and_true, true_and, not_false_iff, not_true_eq_false, true_implies, false_implies, imp_self, implies_true, forall_const, zk_lit, zk_uj_ap, zk_un_ap, zk_un_un, zk_uj_uj, Nat.reduceEqDiff, eq_self, zk_bq, Bool.true_or, Bool.false_or, Nat.le_refl, Nat.zero_add, Nat.add_zero, Nat.reduceAdd, Nat.reduceLeDiff, Nat.le_zero_eq, and_self, and_false, false_and, ite_true, ite_false, Nat.zero_le, List.length_cons, List.length_nil, Option.some.injEq, forall_eq', reduceCtorEq, zk_vd hx1, gt, hin, hcl, spe_X8_isLess, z, zk_b0, Bool.true_eq_false, zk_un_un])
      exact h
    | false =>
      rw [z] at h
      (refine hG 900 _ _ _ _ ?_; simp only [r_X8_shorten, r_X8_shorten_1, zk_kl_none, zk_kl_int, zk_kl_ref, zk_kl_null, zk_kl_long, zk_kl_rf, zk_isr_ref, zk_isr_null, zk_isr_rf9, zk_c1_int, zk_c1_ref, zk_c1_null, zk_c1_rf, zk_psh_some, zk_psh_none, zk_nok_int, zk_nok_bool0, zk_nok_bool1, zk_nok_b, zk_fok_0, zk_fok_1, zk_fok_2, zk_fok_n, zk_fok_rf, zb_f, zb_p, zb_i, zb_a, zb_s, zk_nth_0, zk_nth_s, zk_fld_o, zk_put_o, zk_rv_eq, zk_ri_eq, zk_is_o, List.mem_cons, List.not_mem_nil, or_false, false_or, or_true, true_or, and_true, true_and, not_false_iff, not_true_eq_false, true_implies, false_implies, imp_self, implies_true, forall_const, zk_lit, zk_uj_ap, zk_un_ap, zk_un_un, zk_uj_uj, Nat.reduceEqDiff, eq_self, zk_bq, Bool.true_or, Bool.false_or, Nat.le_refl, Nat.zero_add, Nat.add_zero, Nat.reduceAdd, Nat.reduceLeDiff, Nat.le_zero_eq, and_self, and_false, false_and, ite_true, ite_false, Nat.zero_le, List.length_cons, List.length_nil, Option.some.injEq, forall_eq', reduceCtorEq, zk_vd hx1, gt, hin, hcl, spe_X8_isLess, z, wm, zk_b0, Bool.true_eq_false, zk_un_un])
      exact h
  · have q20 := q1.lt hmi
    have nq : ¬ et N1 i = -1 := by rw [q3]; exact nI_ne1 (by omega)
    obtain ⟨b2, hb2, hbo2, -⟩ := hxr.2.1.room hmi q1
    have hb2 : Q 2 q = some b2 := hb2
    have te : rq Q (et N1 i) = some b2 := by unfold rq; rw [if_neg nq, q3, n_cl (by omega)]; exact hb2
    rw [if_neg nq, decide_eq_true nq, Bool.true_and] at h
    have gt : ∀ F : Value → Prop, zk_fld (O x) [1, 6] 1 F = F (.ref b2) := fun F => by rw [hOx, te]; unfold cX; rcases hci with rfl | rfl <;> simp [zk_fld_o, zk_nth, va_rf_s]
    have gf : ∀ F : Value → Prop, zk_fld (O x) [1, 6] 0 F = F (.ref b) := fun F => by rw [hOx, fe]; unfold cX; rcases hci with rfl | rfl <;> simp [zk_fld_o, zk_nth, va_rf_s]
    have o1 := (FF_on (e := 2 * i) (j := q) hmi hwv.2.1 (by omega) (Or.inl rfl) hgx q20 (by rw [io1]; exact q3)).1
    have o2 := (FF_on (e := 2 * i + 1) (j := r) hmi hwv.2.1 (by omega) (Or.inr rfl) hgx r20 (by rw [io2]; exact r2)).1
    (refine hG 900 _ _ _ _ ?_; simp only [r_X8_shorten, r_X8_shorten_1, zk_kl_none, zk_kl_int, zk_kl_ref, zk_kl_null, zk_kl_long, zk_kl_rf, zk_isr_ref, zk_isr_null, zk_isr_rf9, zk_c1_int, zk_c1_ref, zk_c1_null, zk_c1_rf, zk_psh_some, zk_psh_none, zk_nok_int, zk_nok_bool0, zk_nok_bool1, zk_nok_b, zk_fok_0, zk_fok_1, zk_fok_2, zk_fok_n, zk_fok_rf, zb_f, zb_p, zb_i, zb_a, zb_s, zk_nth_0, zk_nth_s, zk_fld_o, zk_put_o, zk_rv_eq, zk_ri_eq, zk_is_o, List.mem_cons, List.not_mem_nil, or_false, false_or, or_true, true_or, and_true, true_and, not_false_iff, not_true_eq_false, true_implies, false_implies, imp_self, implies_true, forall_const, zk_lit, zk_uj_ap, zk_un_ap, zk_un_un, zk_uj_uj, Nat.reduceEqDiff, eq_self, zk_bq, Bool.true_or, Bool.false_or, Nat.le_refl, Nat.zero_add, Nat.add_zero, Nat.reduceAdd, Nat.reduceLeDiff, Nat.le_zero_eq, and_self, and_false, false_and, ite_true, ite_false, Nat.zero_le, List.length_cons, List.length_nil, Option.some.injEq, forall_eq', reduceCtorEq, zk_vd hx1, gt, gf, spe_X8_wayOn])
    refine ⟨J1, N1, fl, v, B, i, q, hmi, hxr, hwv, hB, hi, rfl, hqx, ho, q1, hb2, ?_⟩
    refine ⟨J1, N1, fl, v, B, i, r, hmi, hxr, hwv, hB, hi, rfl, hqx, ho, r1, hb, ?_⟩
    rw [o1, o2]
    rw [← w8, ← w9] at h
    cases z : w_less (wi (FF J1 N1 v (2 * i))) (N 8 i) with
    | true =>
      rw [z, Bool.true_or] at h
      simp only [r_X8_shorten, r_X8_shorten_1, zk_kl_none, zk_kl_int, zk_kl_ref, zk_kl_null, zk_kl_long, zk_kl_rf, zk_isr_ref, zk_isr_null, zk_isr_rf9, zk_c1_int, zk_c1_ref, zk_c1_null, zk_c1_rf, zk_psh_some, zk_psh_none, zk_nok_int, zk_nok_bool0, zk_nok_bool1, zk_nok_b, zk_fok_0, zk_fok_1, zk_fok_2, zk_fok_n, zk_fok_rf, zb_f, zb_p, zb_i, zb_a, zb_s, zk_nth_0, zk_nth_s, zk_fld_o, zk_put_o, zk_rv_eq, zk_ri_eq, zk_is_o, List.mem_cons, List.not_mem_nil, or_false, false_or, or_true, true_or, and_true, true_and, not_false_iff, not_true_eq_false, true_implies, false_implies, imp_self, implies_true, forall_const, zk_lit, zk_uj_ap, zk_un_ap, zk_un_un, zk_uj_uj, Nat.reduceEqDiff, eq_self, zk_bq, Bool.true_or, Bool.false_or, Nat.le_refl, Nat.zero_add, Nat.add_zero, Nat.reduceAdd, Nat.reduceLeDiff, Nat.le_zero_eq, and_self, and_false, false_and, ite_true, ite_false, Nat.zero_le, List.length_cons, List.length_nil, Option.some.injEq, forall_eq', reduceCtorEq, zk_vd hx1, hin, hcl, spe_X8_isLess, z, zk_b0, Bool.true_eq_false, zk_un_un]
      exact h
    | false =>
      rw [z, Bool.false_or] at h
      cases z2 : w_less (wi (FF J1 N1 v (2 * i + 1))) (N 9 i) with
      | true =>
        rw [z2] at h
        simp only [r_X8_shorten, r_X8_shorten_1, zk_kl_none, zk_kl_int, zk_kl_ref, zk_kl_null, zk_kl_long, zk_kl_rf, zk_isr_ref, zk_isr_null, zk_isr_rf9, zk_c1_int, zk_c1_ref, zk_c1_null, zk_c1_rf, zk_psh_some, zk_psh_none, zk_nok_int, zk_nok_bool0, zk_nok_bool1, zk_nok_b, zk_fok_0, zk_fok_1, zk_fok_2, zk_fok_n, zk_fok_rf, zb_f, zb_p, zb_i, zb_a, zb_s, zk_nth_0, zk_nth_s, zk_fld_o, zk_put_o, zk_rv_eq, zk_ri_eq, zk_is_o, List.mem_cons, List.not_mem_nil, or_false, false_or, or_true, true_or, and_true, true_and, not_false_iff, not_true_eq_false, true_implies, false_implies, imp_self, implies_true, forall_const, zk_lit, zk_uj_ap, zk_un_ap, zk_un_un, zk_uj_uj, Nat.reduceEqDiff, eq_self, zk_bq, Bool.true_or, Bool.false_or, Nat.le_refl, Nat.zero_add, Nat.add_zero, Nat.reduceAdd, Nat.reduceLeDiff, Nat.le_zero_eq, and_self, and_false, false_and, ite_true, ite_false, Nat.zero_le, List.length_cons, List.length_nil, Option.some.injEq, forall_eq', reduceCtorEq, zk_vd hx1, hin, hcl, spe_X8_isLess, z, z2, zk_b0, Bool.true_eq_false, zk_un_un]
        exact h
      | false =>
        rw [z2] at h
        simp only [r_X8_shorten, r_X8_shorten_1, zk_kl_none, zk_kl_int, zk_kl_ref, zk_kl_null, zk_kl_long, zk_kl_rf, zk_isr_ref, zk_isr_null, zk_isr_rf9, zk_c1_int, zk_c1_ref, zk_c1_null, zk_c1_rf, zk_psh_some, zk_psh_none, zk_nok_int, zk_nok_bool0, zk_nok_bool1, zk_nok_b, zk_fok_0, zk_fok_1, zk_fok_2, zk_fok_n, zk_fok_rf, zb_f, zb_p, zb_i, zb_a, zb_s, zk_nth_0, zk_nth_s, zk_fld_o, zk_put_o, zk_rv_eq, zk_ri_eq, zk_is_o, List.mem_cons, List.not_mem_nil, or_false, false_or, or_true, true_or, and_true, true_and, not_false_iff, not_true_eq_false, true_implies, false_implies, imp_self, implies_true, forall_const, zk_lit, zk_uj_ap, zk_un_ap, zk_un_un, zk_uj_uj, Nat.reduceEqDiff, eq_self, zk_bq, Bool.true_or, Bool.false_or, Nat.le_refl, Nat.zero_add, Nat.add_zero, Nat.reduceAdd, Nat.reduceLeDiff, Nat.le_zero_eq, and_self, and_false, false_and, ite_true, ite_false, Nat.zero_le, List.length_cons, List.length_nil, Option.some.injEq, forall_eq', reduceCtorEq, zk_vd hx1, hin, hcl, spe_X8_isLess, z, z2, zk_b0, Bool.true_eq_false, zk_un_un]
        exact h
theorem ct_X8_shorten {l : Launch} (hl : l.stackTraces = false) (E : zk_E) : zk_C l E (zk_VT E) yX8_shorten cX8_shorten 7 (some (.boolean)) rm_X8_shorten (sp_X8_shorten E) := by
  refine zk_meth (M := M_X8_shorten) (C := C_X8_shorten E) hl (by decide +kernel) rfl (fun _ _ => rfl) (zk_VT_ok E) MO_X8_shorten TO_X8_shorten THo_X8_shorten ?_ (vc_X8_shorten E)
  exact fun p e s m args below meth c X pc n mc ms sp2 h => by
    have h2 := zk_lka_mem h
    simp only [List.mem_cons, List.not_mem_nil, or_false, Prod.mk.injEq] at h2
    rcases h2 with ⟨rfl, rfl, rfl, rfl, rfl⟩ | ⟨rfl, rfl, rfl, rfl, rfl⟩ | ⟨rfl, rfl, rfl, rfl, rfl⟩ | ⟨rfl, rfl, rfl, rfl, rfl⟩
    · exact zk_coV (idx := 53) X (ct_X8_wayOn hl E) (List.forall_mem_cons.mpr ⟨zk_wi 126 (by decide +kernel) rfl, List.forall_mem_cons.mpr ⟨zk_wi 127 (by decide +kernel) rfl, List.forall_mem_cons.mpr ⟨zk_wi 128 (by decide +kernel) rfl, List.forall_mem_cons.mpr ⟨zk_wi 4 (by decide +kernel) rfl, List.forall_mem_cons.mpr ⟨zk_wi 129 (by decide +kernel) rfl, fun _ h => absurd h List.not_mem_nil⟩⟩⟩⟩⟩) (fun ci h => by
      have h := Nat.eq_of_beq_eq_true h
      subst h
      exact ⟨_, _, rfl⟩) (by decide +kernel) ⟨by decide, by decide, by decide +kernel⟩ ⟨by decide, by decide⟩
    · exact zk_coV (idx := 53) X (ct_X8_wayOn hl E) (List.forall_mem_cons.mpr ⟨zk_wi 126 (by decide +kernel) rfl, List.forall_mem_cons.mpr ⟨zk_wi 127 (by decide +kernel) rfl, List.forall_mem_cons.mpr ⟨zk_wi 128 (by decide +kernel) rfl, List.forall_mem_cons.mpr ⟨zk_wi 4 (by decide +kernel) rfl, List.forall_mem_cons.mpr ⟨zk_wi 129 (by decide +kernel) rfl, fun _ h => absurd h List.not_mem_nil⟩⟩⟩⟩⟩) (fun ci h => by
      have h := Nat.eq_of_beq_eq_true h
      subst h
      exact ⟨_, _, rfl⟩) (by decide +kernel) ⟨by decide, by decide, by decide +kernel⟩ ⟨by decide, by decide⟩
    · exact zk_coS (idx := 60) X (ct_X8_isLess hl E) (List.forall_mem_cons.mpr ⟨zk_wi 143 (by decide +kernel) rfl, List.forall_mem_cons.mpr ⟨zk_wi 144 (by decide +kernel) rfl, List.forall_mem_cons.mpr ⟨zk_wi 4 (by decide +kernel) rfl, List.forall_mem_cons.mpr ⟨zk_wi 145 (by decide +kernel) rfl, fun _ h => absurd h List.not_mem_nil⟩⟩⟩⟩) (by decide +kernel) ⟨by decide, by decide, by decide +kernel⟩ ⟨by decide, by decide⟩
    · exact zk_coS (idx := 60) X (ct_X8_isLess hl E) (List.forall_mem_cons.mpr ⟨zk_wi 143 (by decide +kernel) rfl, List.forall_mem_cons.mpr ⟨zk_wi 144 (by decide +kernel) rfl, List.forall_mem_cons.mpr ⟨zk_wi 4 (by decide +kernel) rfl, List.forall_mem_cons.mpr ⟨zk_wi 145 (by decide +kernel) rfl, fun _ h => absurd h List.not_mem_nil⟩⟩⟩⟩) (by decide +kernel) ⟨by decide, by decide, by decide +kernel⟩ ⟨by decide, by decide⟩
theorem a_way_wi (J N : Nat → Nat → Int32) {e : Nat} (he : e < 100) {x : Nat} (h1 : e ∈ m_act J N → x = LL J N e) (h2 : e ∉ m_act J N → x = INF) : wi x = a_way J N e := by
  unfold a_way wi
  by_cases q : m_from J N e = -2
  · rw [if_pos (Or.inl q), h2 (fun w => (m_act_mem.mp w).2 q), if_pos rfl]
  · have := h1 (m_act_mem.mpr ⟨he, q⟩)
    rw [this]
    by_cases q2 : LL J N e = INF
    · rw [if_pos q2, if_pos (Or.inr q2)]
    · rw [if_neg q2, if_neg (fun w => w.elim q q2)]
/-- while the ways are told: what holds in a round, before the i-th exit -/
def RI (J N : Nat → Nat → Int32) (v : Nat → Nat) (k i : Nat) (b : Int32) : Prop := (∀ e ∈ m_act J N, FF J N v e ≤ v e ∧ LL J N e ≤ v e ∧ v e ≤ DD J N k e ∧ (e < 2 * i → v e ≤ DD J N (k + 1) e)) ∧ (b = 0 → ∀ e ∈ m_act J N, e < 2 * i → v e ≤ FF J N v e)
theorem nv_le {J N : Nat → Nat → Int32} {v : Nat → Nat} {i : Nat} (hz : 2 * i + 1 ∈ m_act J N → ¬ et N i = -1) (h : ∀ e ∈ m_act J N, FF J N v e ≤ v e) : ∀ e ∈ m_act J N, nv J N v i e ≤ v e ∧ (nv J N v i e = v e ∨ nv J N v i e = FF J N v e) := fun e he => by
  unfold nv
  by_cases q1 : e = 2 * i + 1
  · rw [q1, updN_self]
    rw [q1] at he
    rw [if_neg (hz he)]
    exact ⟨h _ he, Or.inr rfl⟩
  · rw [updN_ne _ _ q1]
    by_cases q2 : e = 2 * i
    · rw [q2, updN_self]
      rw [q2] at he
      exact ⟨h _ he, Or.inr rfl⟩
    · rw [updN_ne _ _ q2]
      exact ⟨Nat.le_refl _, Or.inl rfl⟩
theorem RI.step {J N : Nat → Nat → Int32} {v : Nat → Nat} {k i : Nat} {b : Int32} (hmi : MI J N) (hi : i < 50) (hx : MX J N i) (ho : eo N i) (hI : ∀ e, e ∉ m_act J N → v e = INF) (hv : ∀ e, v e ≤ INF) (h : RI J N v k i b) : (sb J N v i = true → RI J N (nv J N v i) k (i + 1) 1) ∧ (sb J N v i = false → nv J N v i = v ∧ RI J N v k (i + 1) b) := by
  obtain ⟨h1, h2⟩ := h
  obtain ⟨a1, a2, a3⟩ := act_dir hmi hi hx ho
  have hz : 2 * i + 1 ∈ m_act J N → ¬ et N i = -1 := fun w z => a3 z w
  have hle := nv_le hz (fun e he => (h1 e he).1)
  have hm : ∀ e, FF J N (nv J N v i) e ≤ FF J N v e := fun e => FF_mono (fun f hf => (hle f hf).1)
  have hD : ∀ e, FF J N v e ≤ DD J N (k + 1) e := fun e => FF_mono (fun f hf => (h1 f hf).2.2.1)
  have hL : ∀ e ∈ m_act J N, LL J N e ≤ FF J N v e := fun e he => by
    rw [← LL_fix he]
    exact FF_mono (fun f hf => (h1 f hf).2.1)
  have nat0 : nv J N v i (2 * i) = FF J N v (2 * i) := by unfold nv; rw [updN_ne _ _ (by omega), updN_self]
  have nat1 : 2 * i + 1 ∈ m_act J N → nv J N v i (2 * i + 1) = FF J N v (2 * i + 1) := fun w => by unfold nv; rw [updN_self, if_neg (hz w)]
  refine ⟨fun _ => ⟨fun e he => ?_, fun w => absurd w (by decide)⟩, fun hs => ?_⟩
  · obtain ⟨g1, g2, g3, g4⟩ := h1 e he
    have l1 := hle e he
    have l2 := hm e
    have l3 := hL e he
    have l4 := hD e
    refine ⟨?_, ?_, by omega, fun w => ?_⟩
    · rcases l1.2 with q | q <;> omega
    · rcases l1.2 with q | q <;> omega
    · by_cases z0 : e = 2 * i
      · rw [z0, nat0]; exact hD _
      · by_cases z1 : e = 2 * i + 1
        · rw [z1] at he ⊢
          rw [nat1 he]; exact hD _
        · have := g4 (by omega)
          omega
  · unfold sb at hs
    rw [Bool.or_eq_false_iff] at hs
    have s0 := of_decide_eq_false hs.1
    have e0 : FF J N v (2 * i) = v (2 * i) := by have := (h1 _ a1).1; omega
    have e1 : 2 * i + 1 ∈ m_act J N → FF J N v (2 * i + 1) = v (2 * i + 1) := fun w => by
      have s1 := hs.2
      rw [decide_eq_true (hz w), Bool.true_and] at s1
      have s1 := of_decide_eq_false s1
      have := (h1 _ w).1
      omega
    have en : nv J N v i = v := by
      funext e
      by_cases z1 : e = 2 * i + 1
      · rw [z1]
        by_cases w : 2 * i + 1 ∈ m_act J N
        · rw [nat1 w, e1 w]
        · unfold nv
          rw [updN_self, hI _ w]
          by_cases y : et N i = -1
          · rw [if_pos y]
          · exact absurd (a2 y) w
      · by_cases z0 : e = 2 * i
        · rw [z0, nat0, e0]
        · unfold nv; rw [updN_ne _ _ z1, updN_ne _ _ z0]
    refine ⟨en, fun e he => ?_, fun w e he hlt => ?_⟩
    · obtain ⟨g1, g2, g3, g4⟩ := h1 e he
      refine ⟨g1, g2, g3, fun w => ?_⟩
      by_cases z0 : e = 2 * i
      · rw [z0, ← e0]; exact hD _
      · by_cases z1 : e = 2 * i + 1
        · rw [z1] at he ⊢
          rw [← e1 he]; exact hD _
        · exact g4 (by omega)
    · by_cases z0 : e = 2 * i
      · rw [z0]; omega
      · by_cases z1 : e = 2 * i + 1
        · rw [z1] at he ⊢
          rw [e1 he]; exact Nat.le_refl _
        · exact h2 w e he (by omega)
theorem RI.skip {J N : Nat → Nat → Int32} {v : Nat → Nat} {k i : Nat} {b : Int32} (hx : ¬ (MX J N i ∧ eo N i)) (h : RI J N v k i b) : RI J N v k (i + 1) b := by
  obtain ⟨a1, a2⟩ := act_no (J := J) (N := N) hx
  refine ⟨fun e he => ?_, fun w e he hlt => ?_⟩
  · obtain ⟨g1, g2, g3, g4⟩ := h.1 e he
    exact ⟨g1, g2, g3, fun w => g4 (by
      have : e ≠ 2 * i := fun z => a1 (z ▸ he)
      have : e ≠ 2 * i + 1 := fun z => a2 (z ▸ he)
      omega)⟩
  · refine h.2 w e he ?_
    have : e ≠ 2 * i := fun z => a1 (z ▸ he)
    have : e ≠ 2 * i + 1 := fun z => a2 (z ▸ he)
    omega
theorem WV.next {J N N1 : Nat → Nat → Int32} {v : Nat → Nat} {B i : Nat} (hmi : MI J N) (hi : i < 50) (hx : MX J N i) (ho : eo N i) (hB : B ≤ 100000000) (h : WV J N N1 v B) : WV J N (zk_un (zk_un N1 8 (upd (N1 8) i (wi (nv J N v i (2 * i))))) 9 (upd (N1 9) i (wi (nv J N v i (2 * i + 1))))) (nv J N v i) (B + 820) := by
  obtain ⟨h1, h2, h3⟩ := h
  obtain ⟨a1, a2, a3⟩ := act_dir hmi hi hx ho
  have hgx := m_gx hmi a1
  obtain ⟨io1, io2⟩ := into_e N i
  obtain ⟨r, r1, r2, r3⟩ := ends_e hmi hx
  refine ⟨fun q hq => ?_, fun e => ?_, fun e he => ?_⟩
  · show upd (N1 8) i _ q = _ ∧ upd (N1 9) i _ q = _
    by_cases z : q = i
    · rw [z, upd_self, upd_self]; exact ⟨rfl, rfl⟩
    · rw [upd_ne _ _ z, upd_ne _ _ z]
      have e1 : nv J N v i (2 * q) = v (2 * q) := by unfold nv; rw [updN_ne _ _ (by omega), updN_ne _ _ (by omega)]
      have e2 : nv J N v i (2 * q + 1) = v (2 * q + 1) := by unfold nv; rw [updN_ne _ _ (by omega), updN_ne _ _ (by omega)]
      rw [e1, e2]
      exact h1 q hq
  · unfold nv
    by_cases z1 : e = 2 * i + 1
    · rw [z1, updN_self]
      by_cases y : et N i = -1
      · rw [if_pos y]; exact ⟨Nat.le_refl _, fun w => absurd w (Nat.lt_irrefl _)⟩
      · rw [if_neg y]
        exact ⟨FF_le_INF _ _ _ _, (FF_on (e := 2 * i + 1) (j := r) hmi h2 hB (Or.inr rfl) hgx (r1.lt hmi) (by rw [io2]; exact r2)).2⟩
    · rw [updN_ne _ _ z1]
      by_cases z0 : e = 2 * i
      · rw [z0, updN_self]
        refine ⟨FF_le_INF _ _ _ _, ?_⟩
        rcases r3 with r3 | ⟨q, q1, q2, q3⟩
        · intro _
          unfold FF
          rw [io1, if_pos r3]
          omega
        · exact (FF_on (e := 2 * i) (j := q) hmi h2 hB (Or.inl rfl) hgx (q1.lt hmi) (by rw [io1]; exact q3)).2
      · rw [updN_ne _ _ z0]
        exact ⟨(h2 e).1, fun w => by have := (h2 e).2 w; omega⟩
  · unfold nv
    by_cases z1 : e = 2 * i + 1
    · rw [z1, updN_self]
      rw [z1] at he
      by_cases y : et N i = -1
      · rw [if_pos y]
      · exact absurd (a2 y) he
    · rw [updN_ne _ _ z1]
      by_cases z0 : e = 2 * i
      · rw [z0] at he; exact absurd a1 he
      · rw [updN_ne _ _ z0]; exact h3 e he
def sp_X8_reckonExits (E : zk_E) : zk_Sp zk_S := fun av σ sz P PX => match av with
  | [.ref a, .ref p] => a = zk_ad E 7 ∧ p = zk_ad E 1 ∧ ∃ J N fl, MI J N ∧ XR E sz σ J N fl ∧ ∀ A B, (∀ i, i < 50 → A i = a_way J N (2 * i) ∧ B i = a_way J N (2 * i + 1)) → P none (σ.1, zk_un (zk_un σ.2.1 8 A) 9 B, σ.2.2) sz
  | _ => False
theorem spe_X8_reckonExits (E : zk_E) (a : Nat) (p : Nat) (σ : zk_S) (sz : Nat) (P : zk_P zk_S) (PX : zk_X zk_S) : sp_X8_reckonExits E [.ref a, .ref p] σ sz P PX = (a = zk_ad E 7 ∧ p = zk_ad E 1 ∧ ∃ J N fl, MI J N ∧ XR E sz σ J N fl ∧ ∀ A B, (∀ i, i < 50 → A i = a_way J N (2 * i) ∧ B i = a_way J N (2 * i + 1)) → P none (σ.1, zk_un (zk_un σ.2.1 8 A) 9 B, σ.2.2) sz) := propext Iff.rfl
def C_X8_reckonExits (E : zk_E) : zk_Cl zk_S := zk_lka [(57, 2, 0, 0, zk_rv (zk_VT E) (fun ci => Nat.beq ci 4) (sp_X5_exitAt E)), (81, 4, 0, 0, zk_rv (zk_VT E) (fun ci => Nat.beq ci 7) (sp_X8_shorten E))]
theorem r_X8_reckonExits (E : zk_E) (P : zk_P zk_S) (PX : zk_X zk_S) (K : Nat → zk_L → List Value → zk_W zk_S → Prop) : (∀ (n : Nat) (l0 l1 l2 l3 l4 l5 : Option Value)  (r : List Value) (σ : zk_S) (sz k c : Nat), zk_run E (zk_VT E) M_X8_reckonExits (C_X8_reckonExits E) P PX K (n + 1) 0 [l0, l1, l2, l3, l4, l5] r (σ, sz, k, c) = zk_run E (zk_VT E) M_X8_reckonExits (C_X8_reckonExits E) P PX K n 1 [l0, l1, l2, l3, l4, l5] (.int (0) :: r) (σ, sz, k, c)) ∧
  (∀ (n : Nat) (l0 l1 l2 l3 l4 l5 : Option Value) (x : Int32) (r : List Value) (σ : zk_S) (sz k c : Nat), zk_run E (zk_VT E) M_X8_reckonExits (C_X8_reckonExits E) P PX K (n + 1) 1 [l0, l1, l2, l3, l4, l5] (.int x :: r) (σ, sz, k, c) = zk_run E (zk_VT E) M_X8_reckonExits (C_X8_reckonExits E) P PX K n 2 [l0, zk_kl l1, some (.int x), l3, l4, l5] r (σ, sz, k, c)) ∧
  (∀ (n : Nat) (l0 l1 l2 l3 l4 l5 : Option Value)  (r : List Value) (σ : zk_S) (sz k c : Nat), zk_run E (zk_VT E) M_X8_reckonExits (C_X8_reckonExits E) P PX K (n + 1) 2 [l0, l1, l2, l3, l4, l5] r (σ, sz, k, c) = K 2 [l0, l1, l2, l3, l4, l5] r (σ, sz, k, c)) ∧
  (∀ (n : Nat) (l0 l1 l2 l3 l4 l5 : Option Value)  (r : List Value) (σ : zk_S) (sz k c : Nat), zk_run E (zk_VT E) M_X8_reckonExits (C_X8_reckonExits E) P PX K (n + 1) 3 [l0, l1, l2, l3, l4, l5] r (σ, sz, k, c) = zk_run E (zk_VT E) M_X8_reckonExits (C_X8_reckonExits E) P PX K n 5 [l0, l1, l2, l3, l4, l5] (.int (50) :: r) (σ, sz, k, c)) ∧
  (∀ (n : Nat) (l0 l1 l2 l3 l4 l5 : Option Value) (x y : Int32) (r : List Value) (σ : zk_S) (sz k c : Nat), zk_run E (zk_VT E) M_X8_reckonExits (C_X8_reckonExits E) P PX K (n + 1) 5 [l0, l1, l2, l3, l4, l5] (.int y :: .int x :: r) (σ, sz, k, c) = ((y ≤ x → zk_run E (zk_VT E) M_X8_reckonExits (C_X8_reckonExits E) P PX K n 28 [l0, l1, l2, l3, l4, l5] r (σ, sz, k, c)) ∧ (¬ (y ≤ x) → zk_run E (zk_VT E) M_X8_reckonExits (C_X8_reckonExits E) P PX K n 8 [l0, l1, l2, l3, l4, l5] r (σ, sz, k, c)))) ∧
  (∀ (n : Nat) (l1 l2 l3 l4 l5 : Option Value) (y0 : Value) (r : List Value) (σ : zk_S) (sz k c : Nat), zk_run E (zk_VT E) M_X8_reckonExits (C_X8_reckonExits E) P PX K (n + 1) 8 [some y0, l1, l2, l3, l4, l5] r (σ, sz, k, c) = (zk_isr y0 ∧ zk_run E (zk_VT E) M_X8_reckonExits (C_X8_reckonExits E) P PX K n 9 [some y0, l1, l2, l3, l4, l5] (y0 :: r) (σ, sz, k, c))) ∧
  (∀ (n : Nat) (l0 l1 l2 l3 l4 l5 : Option Value) (a : Nat) (r : List Value) (σ : zk_S) (sz k c : Nat), zk_run E (zk_VT E) M_X8_reckonExits (C_X8_reckonExits E) P PX K (n + 1) 9 [l0, l1, l2, l3, l4, l5] (.ref a :: r) (σ, sz, k, c) = zk_fld (zk_view E σ a) [7] 0 (fun v => zk_run E (zk_VT E) M_X8_reckonExits (C_X8_reckonExits E) P PX K n 12 [l0, l1, l2, l3, l4, l5] (v :: r) (σ, sz, k, c))) ∧
  (∀ (n : Nat) (l0 l1 l3 l4 l5 : Option Value) (y2 : Int32) (r : List Value) (σ : zk_S) (sz k c : Nat), zk_run E (zk_VT E) M_X8_reckonExits (C_X8_reckonExits E) P PX K (n + 1) 12 [l0, l1, some (.int y2), l3, l4, l5] r (σ, sz, k, c) = zk_run E (zk_VT E) M_X8_reckonExits (C_X8_reckonExits E) P PX K n 13 [l0, l1, some (.int y2), l3, l4, l5] (.int y2 :: r) (σ, sz, k, c)) ∧
  (∀ (n : Nat) (l0 l1 l2 l3 l4 l5 : Option Value)  (r : List Value) (σ : zk_S) (sz k c : Nat), zk_run E (zk_VT E) M_X8_reckonExits (C_X8_reckonExits E) P PX K (n + 1) 13 [l0, l1, l2, l3, l4, l5] r (σ, sz, k, c) = zk_run E (zk_VT E) M_X8_reckonExits (C_X8_reckonExits E) P PX K n 14 [l0, l1, l2, l3, l4, l5] (.int ((-1)) :: r) (σ, sz, k, c)) ∧
  (∀ (n : Nat) (l0 l1 l2 l3 l4 l5 : Option Value) (a : Nat) (i x : Int32) (r : List Value) (σ : zk_S) (sz k c : Nat), zk_run E (zk_VT E) M_X8_reckonExits (C_X8_reckonExits E) P PX K (n + 1) 14 [l0, l1, l2, l3, l4, l5] (.int x :: .int i :: .ref a :: r) (σ, sz, k, c) = zk_ist (zk_view E σ a) (zk_ar E 0) i x (fun e => zk_wrok E σ a e ∧ zk_run E (zk_VT E) M_X8_reckonExits (C_X8_reckonExits E) P PX K n 15 [l0, l1, l2, l3, l4, l5] r (zk_wr E σ a e, sz, k, c))) ∧
  (∀ (n : Nat) (l1 l2 l3 l4 l5 : Option Value) (y0 : Value) (r : List Value) (σ : zk_S) (sz k c : Nat), zk_run E (zk_VT E) M_X8_reckonExits (C_X8_reckonExits E) P PX K (n + 1) 15 [some y0, l1, l2, l3, l4, l5] r (σ, sz, k, c) = (zk_isr y0 ∧ zk_run E (zk_VT E) M_X8_reckonExits (C_X8_reckonExits E) P PX K n 16 [some y0, l1, l2, l3, l4, l5] (y0 :: r) (σ, sz, k, c))) ∧
  (∀ (n : Nat) (l0 l1 l2 l3 l4 l5 : Option Value) (a : Nat) (r : List Value) (σ : zk_S) (sz k c : Nat), zk_run E (zk_VT E) M_X8_reckonExits (C_X8_reckonExits E) P PX K (n + 1) 16 [l0, l1, l2, l3, l4, l5] (.ref a :: r) (σ, sz, k, c) = zk_fld (zk_view E σ a) [7] 1 (fun v => zk_run E (zk_VT E) M_X8_reckonExits (C_X8_reckonExits E) P PX K n 19 [l0, l1, l2, l3, l4, l5] (v :: r) (σ, sz, k, c))) ∧
  (∀ (n : Nat) (l0 l1 l3 l4 l5 : Option Value) (y2 : Int32) (r : List Value) (σ : zk_S) (sz k c : Nat), zk_run E (zk_VT E) M_X8_reckonExits (C_X8_reckonExits E) P PX K (n + 1) 19 [l0, l1, some (.int y2), l3, l4, l5] r (σ, sz, k, c) = zk_run E (zk_VT E) M_X8_reckonExits (C_X8_reckonExits E) P PX K n 20 [l0, l1, some (.int y2), l3, l4, l5] (.int y2 :: r) (σ, sz, k, c)) ∧
  (∀ (n : Nat) (l0 l1 l2 l3 l4 l5 : Option Value)  (r : List Value) (σ : zk_S) (sz k c : Nat), zk_run E (zk_VT E) M_X8_reckonExits (C_X8_reckonExits E) P PX K (n + 1) 20 [l0, l1, l2, l3, l4, l5] r (σ, sz, k, c) = zk_run E (zk_VT E) M_X8_reckonExits (C_X8_reckonExits E) P PX K n 21 [l0, l1, l2, l3, l4, l5] (.int ((-1)) :: r) (σ, sz, k, c)) ∧
  (∀ (n : Nat) (l0 l1 l2 l3 l4 l5 : Option Value) (a : Nat) (i x : Int32) (r : List Value) (σ : zk_S) (sz k c : Nat), zk_run E (zk_VT E) M_X8_reckonExits (C_X8_reckonExits E) P PX K (n + 1) 21 [l0, l1, l2, l3, l4, l5] (.int x :: .int i :: .ref a :: r) (σ, sz, k, c) = zk_ist (zk_view E σ a) (zk_ar E 0) i x (fun e => zk_wrok E σ a e ∧ zk_run E (zk_VT E) M_X8_reckonExits (C_X8_reckonExits E) P PX K n 22 [l0, l1, l2, l3, l4, l5] r (zk_wr E σ a e, sz, k, c))) ∧
  (∀ (n : Nat) (l0 l1 l3 l4 l5 : Option Value) (y2 : Int32) (r : List Value) (σ : zk_S) (sz k c : Nat), zk_run E (zk_VT E) M_X8_reckonExits (C_X8_reckonExits E) P PX K (n + 1) 22 [l0, l1, some (.int y2), l3, l4, l5] r (σ, sz, k, c) = zk_run E (zk_VT E) M_X8_reckonExits (C_X8_reckonExits E) P PX K n 25 [l0, zk_kl l1, some (.int (y2 + 1)), l3, l4, l5] r (σ, sz, k, c)) ∧
  (∀ (n : Nat) (l0 l1 l2 l3 l4 l5 : Option Value)  (r : List Value) (σ : zk_S) (sz k c : Nat), zk_run E (zk_VT E) M_X8_reckonExits (C_X8_reckonExits E) P PX K (n + 1) 25 [l0, l1, l2, l3, l4, l5] r (σ, sz, k, c) = zk_run E (zk_VT E) M_X8_reckonExits (C_X8_reckonExits E) P PX K n 2 [l0, l1, l2, l3, l4, l5] r (σ, sz, k, c)) ∧
  (∀ (n : Nat) (l0 l1 l2 l3 l4 l5 : Option Value)  (r : List Value) (σ : zk_S) (sz k c : Nat), zk_run E (zk_VT E) M_X8_reckonExits (C_X8_reckonExits E) P PX K (n + 1) 28 [l0, l1, l2, l3, l4, l5] r (σ, sz, k, c) = zk_run E (zk_VT E) M_X8_reckonExits (C_X8_reckonExits E) P PX K n 29 [l0, l1, l2, l3, l4, l5] (.int (1) :: r) (σ, sz, k, c)) ∧
  (∀ (n : Nat) (l0 l1 l2 l3 l4 l5 : Option Value) (x : Int32) (r : List Value) (σ : zk_S) (sz k c : Nat), zk_run E (zk_VT E) M_X8_reckonExits (C_X8_reckonExits E) P PX K (n + 1) 29 [l0, l1, l2, l3, l4, l5] (.int x :: r) (σ, sz, k, c) = zk_run E (zk_VT E) M_X8_reckonExits (C_X8_reckonExits E) P PX K n 30 [l0, zk_kl l1, some (.int x), l3, l4, l5] r (σ, sz, k, c)) ∧
  (∀ (n : Nat) (l0 l1 l2 l3 l4 l5 : Option Value)  (r : List Value) (σ : zk_S) (sz k c : Nat), zk_run E (zk_VT E) M_X8_reckonExits (C_X8_reckonExits E) P PX K (n + 1) 30 [l0, l1, l2, l3, l4, l5] r (σ, sz, k, c) = zk_run E (zk_VT E) M_X8_reckonExits (C_X8_reckonExits E) P PX K n 31 [l0, l1, l2, l3, l4, l5] (.int (0) :: r) (σ, sz, k, c)) ∧
  (∀ (n : Nat) (l0 l1 l2 l3 l4 l5 : Option Value) (x : Int32) (r : List Value) (σ : zk_S) (sz k c : Nat), zk_run E (zk_VT E) M_X8_reckonExits (C_X8_reckonExits E) P PX K (n + 1) 31 [l0, l1, l2, l3, l4, l5] (.int x :: r) (σ, sz, k, c) = zk_run E (zk_VT E) M_X8_reckonExits (C_X8_reckonExits E) P PX K n 32 [l0, l1, zk_kl l2, some (.int x), l4, l5] r (σ, sz, k, c)) ∧
  (∀ (n : Nat) (l0 l1 l2 l3 l4 l5 : Option Value)  (r : List Value) (σ : zk_S) (sz k c : Nat), zk_run E (zk_VT E) M_X8_reckonExits (C_X8_reckonExits E) P PX K (n + 1) 32 [l0, l1, l2, l3, l4, l5] r (σ, sz, k, c) = K 32 [l0, l1, l2, l3, l4, l5] r (σ, sz, k, c)) ∧
  (∀ (n : Nat) (l0 l1 l2 l3 l4 l5 : Option Value) (x : Int32) (r : List Value) (σ : zk_S) (sz k c : Nat), zk_run E (zk_VT E) M_X8_reckonExits (C_X8_reckonExits E) P PX K (n + 1) 33 [l0, l1, l2, l3, l4, l5] (.int x :: r) (σ, sz, k, c) = ((x = 0 → zk_run E (zk_VT E) M_X8_reckonExits (C_X8_reckonExits E) P PX K n 101 [l0, l1, l2, l3, l4, l5] r (σ, sz, k, c)) ∧ (¬ (x = 0) → zk_run E (zk_VT E) M_X8_reckonExits (C_X8_reckonExits E) P PX K n 36 [l0, l1, l2, l3, l4, l5] r (σ, sz, k, c)))) ∧
  (∀ (n : Nat) (l0 l1 l2 l4 l5 : Option Value) (y3 : Int32) (r : List Value) (σ : zk_S) (sz k c : Nat), zk_run E (zk_VT E) M_X8_reckonExits (C_X8_reckonExits E) P PX K (n + 1) 36 [l0, l1, l2, some (.int y3), l4, l5] r (σ, sz, k, c) = zk_run E (zk_VT E) M_X8_reckonExits (C_X8_reckonExits E) P PX K n 37 [l0, l1, l2, some (.int y3), l4, l5] (.int y3 :: r) (σ, sz, k, c)) ∧
  (∀ (n : Nat) (l0 l1 l2 l3 l4 l5 : Option Value)  (r : List Value) (σ : zk_S) (sz k c : Nat), zk_run E (zk_VT E) M_X8_reckonExits (C_X8_reckonExits E) P PX K (n + 1) 37 [l0, l1, l2, l3, l4, l5] r (σ, sz, k, c) = zk_run E (zk_VT E) M_X8_reckonExits (C_X8_reckonExits E) P PX K n 39 [l0, l1, l2, l3, l4, l5] (.int (100) :: r) (σ, sz, k, c)) ∧
  (∀ (n : Nat) (l0 l1 l2 l3 l4 l5 : Option Value) (x y : Int32) (r : List Value) (σ : zk_S) (sz k c : Nat), zk_run E (zk_VT E) M_X8_reckonExits (C_X8_reckonExits E) P PX K (n + 1) 39 [l0, l1, l2, l3, l4, l5] (.int y :: .int x :: r) (σ, sz, k, c) = ((y < x → zk_run E (zk_VT E) M_X8_reckonExits (C_X8_reckonExits E) P PX K n 101 [l0, l1, l2, l3, l4, l5] r (σ, sz, k, c)) ∧ (¬ (y < x) → zk_run E (zk_VT E) M_X8_reckonExits (C_X8_reckonExits E) P PX K n 42 [l0, l1, l2, l3, l4, l5] r (σ, sz, k, c)))) ∧
  (∀ (n : Nat) (l0 l1 l2 l3 l4 l5 : Option Value)  (r : List Value) (σ : zk_S) (sz k c : Nat), zk_run E (zk_VT E) M_X8_reckonExits (C_X8_reckonExits E) P PX K (n + 1) 42 [l0, l1, l2, l3, l4, l5] r (σ, sz, k, c) = zk_run E (zk_VT E) M_X8_reckonExits (C_X8_reckonExits E) P PX K n 43 [l0, l1, l2, l3, l4, l5] (.int (0) :: r) (σ, sz, k, c)) ∧
  (∀ (n : Nat) (l0 l1 l2 l3 l4 l5 : Option Value) (x : Int32) (r : List Value) (σ : zk_S) (sz k c : Nat), zk_run E (zk_VT E) M_X8_reckonExits (C_X8_reckonExits E) P PX K (n + 1) 43 [l0, l1, l2, l3, l4, l5] (.int x :: r) (σ, sz, k, c) = zk_run E (zk_VT E) M_X8_reckonExits (C_X8_reckonExits E) P PX K n 44 [l0, zk_kl l1, some (.int x), l3, l4, l5] r (σ, sz, k, c)) ∧
  (∀ (n : Nat) (l0 l1 l2 l3 l4 l5 : Option Value)  (r : List Value) (σ : zk_S) (sz k c : Nat), zk_run E (zk_VT E) M_X8_reckonExits (C_X8_reckonExits E) P PX K (n + 1) 44 [l0, l1, l2, l3, l4, l5] r (σ, sz, k, c) = zk_run E (zk_VT E) M_X8_reckonExits (C_X8_reckonExits E) P PX K n 45 [l0, l1, l2, l3, l4, l5] (.int (0) :: r) (σ, sz, k, c)) ∧
  (∀ (n : Nat) (l0 l1 l2 l3 l4 l5 : Option Value) (x : Int32) (r : List Value) (σ : zk_S) (sz k c : Nat), zk_run E (zk_VT E) M_X8_reckonExits (C_X8_reckonExits E) P PX K (n + 1) 45 [l0, l1, l2, l3, l4, l5] (.int x :: r) (σ, sz, k, c) = zk_run E (zk_VT E) M_X8_reckonExits (C_X8_reckonExits E) P PX K n 47 [l0, l1, l2, zk_kl l3, some (.int x), l5] r (σ, sz, k, c)) ∧
  (∀ (n : Nat) (l0 l1 l2 l3 l4 l5 : Option Value)  (r : List Value) (σ : zk_S) (sz k c : Nat), zk_run E (zk_VT E) M_X8_reckonExits (C_X8_reckonExits E) P PX K (n + 1) 47 [l0, l1, l2, l3, l4, l5] r (σ, sz, k, c) = K 47 [l0, l1, l2, l3, l4, l5] r (σ, sz, k, c)) ∧
  (∀ (n : Nat) (l0 l1 l2 l3 l4 l5 : Option Value)  (r : List Value) (σ : zk_S) (sz k c : Nat), zk_run E (zk_VT E) M_X8_reckonExits (C_X8_reckonExits E) P PX K (n + 1) 49 [l0, l1, l2, l3, l4, l5] r (σ, sz, k, c) = zk_run E (zk_VT E) M_X8_reckonExits (C_X8_reckonExits E) P PX K n 51 [l0, l1, l2, l3, l4, l5] (.int (50) :: r) (σ, sz, k, c)) ∧
  (∀ (n : Nat) (l0 l1 l2 l3 l4 l5 : Option Value) (x y : Int32) (r : List Value) (σ : zk_S) (sz k c : Nat), zk_run E (zk_VT E) M_X8_reckonExits (C_X8_reckonExits E) P PX K (n + 1) 51 [l0, l1, l2, l3, l4, l5] (.int y :: .int x :: r) (σ, sz, k, c) = ((y ≤ x → zk_run E (zk_VT E) M_X8_reckonExits (C_X8_reckonExits E) P PX K n 95 [l0, l1, l2, l3, l4, l5] r (σ, sz, k, c)) ∧ (¬ (y ≤ x) → zk_run E (zk_VT E) M_X8_reckonExits (C_X8_reckonExits E) P PX K n 54 [l0, l1, l2, l3, l4, l5] r (σ, sz, k, c)))) ∧
  (∀ (n : Nat) (l0 l2 l3 l4 l5 : Option Value) (y1 : Value) (r : List Value) (σ : zk_S) (sz k c : Nat), zk_run E (zk_VT E) M_X8_reckonExits (C_X8_reckonExits E) P PX K (n + 1) 54 [l0, some y1, l2, l3, l4, l5] r (σ, sz, k, c) = (zk_isr y1 ∧ zk_run E (zk_VT E) M_X8_reckonExits (C_X8_reckonExits E) P PX K n 55 [l0, some y1, l2, l3, l4, l5] (y1 :: r) (σ, sz, k, c))) ∧
  (∀ (n : Nat) (l0 l1 l2 l3 l5 : Option Value) (y4 : Int32) (r : List Value) (σ : zk_S) (sz k c : Nat), zk_run E (zk_VT E) M_X8_reckonExits (C_X8_reckonExits E) P PX K (n + 1) 55 [l0, l1, l2, l3, some (.int y4), l5] r (σ, sz, k, c) = zk_run E (zk_VT E) M_X8_reckonExits (C_X8_reckonExits E) P PX K n 57 [l0, l1, l2, l3, some (.int y4), l5] (.int y4 :: r) (σ, sz, k, c)) ∧
  (∀ (n : Nat) (l0 l1 l2 l3 l4 l5 : Option Value) (v0 : Value) (v1 : Value)  (σ : zk_S) (sz k c : Nat), zk_run E (zk_VT E) M_X8_reckonExits (C_X8_reckonExits E) P PX K (n + 1) 57 [l0, l1, l2, l3, l4, l5] [v0, v1] (σ, sz, k, c) = (k + 0 ≤ 0 ∧ c + 0 ≤ 0 ∧ (zk_rv (zk_VT E) (fun ci => Nat.beq ci 4) (sp_X5_exitAt E)) [v1, v0] σ sz (fun v s2 z2 => zk_run E (zk_VT E) M_X8_reckonExits (C_X8_reckonExits E) P PX K n 60 [l0, l1, l2, l3, l4, l5] (zk_psh v []) (s2, z2, k + 0, c + 0)) (fun X s2 z2 => PX X s2 z2))) ∧
  (∀ (n : Nat) (l0 l1 l2 l3 l4 l5 : Option Value) (x : Value) (r : List Value) (σ : zk_S) (sz k c : Nat), zk_run E (zk_VT E) M_X8_reckonExits (C_X8_reckonExits E) P PX K (n + 1) 60 [l0, l1, l2, l3, l4, l5] (x :: r) (σ, sz, k, c) = (zk_isr x ∧ zk_run E (zk_VT E) M_X8_reckonExits (C_X8_reckonExits E) P PX K n 62 [l0, l1, l2, l3, zk_kl l4, some (x)] r (σ, sz, k, c))) ∧
  (∀ (n : Nat) (l0 l1 l2 l3 l4 : Option Value) (y5 : Value) (r : List Value) (σ : zk_S) (sz k c : Nat), zk_run E (zk_VT E) M_X8_reckonExits (C_X8_reckonExits E) P PX K (n + 1) 62 [l0, l1, l2, l3, l4, some y5] r (σ, sz, k, c) = (zk_isr y5 ∧ zk_run E (zk_VT E) M_X8_reckonExits (C_X8_reckonExits E) P PX K n 64 [l0, l1, l2, l3, l4, some y5] (y5 :: r) (σ, sz, k, c))) ∧
  (∀ (n : Nat) (l0 l1 l2 l3 l4 l5 : Option Value) (v : Value) (r : List Value) (σ : zk_S) (sz k c : Nat), zk_run E (zk_VT E) M_X8_reckonExits (C_X8_reckonExits E) P PX K (n + 1) 64 [l0, l1, l2, l3, l4, l5] (v :: r) (σ, sz, k, c) = (zk_isr v ∧ (v = .null → zk_run E (zk_VT E) M_X8_reckonExits (C_X8_reckonExits E) P PX K n 89 [l0, l1, l2, l3, l4, l5] r (σ, sz, k, c)) ∧ (¬ (v = .null) → zk_run E (zk_VT E) M_X8_reckonExits (C_X8_reckonExits E) P PX K n 67 [l0, l1, l2, l3, l4, l5] r (σ, sz, k, c)))) ∧
  (∀ (n : Nat) (l0 l1 l2 l3 l4 : Option Value) (y5 : Value) (r : List Value) (σ : zk_S) (sz k c : Nat), zk_run E (zk_VT E) M_X8_reckonExits (C_X8_reckonExits E) P PX K (n + 1) 67 [l0, l1, l2, l3, l4, some y5] r (σ, sz, k, c) = (zk_isr y5 ∧ zk_run E (zk_VT E) M_X8_reckonExits (C_X8_reckonExits E) P PX K n 69 [l0, l1, l2, l3, l4, some y5] (y5 :: r) (σ, sz, k, c))) := ⟨by intros; rfl, by intros; rfl, by intros; rfl, by intros; rfl, by intros; rfl, by intros; rfl, by intros; rfl, by intros; rfl, by intros; rfl, by intros; rfl, by intros; rfl, by intros; rfl, by intros; rfl, by intros; rfl, by intros; rfl, by intros; rfl, by intros; rfl, by intros; rfl, by intros; rfl, by intros; rfl, by intros; rfl, by intros; rfl, by intros; rfl, by intros; rfl, by intros; rfl, by intros; rfl, by intros; rfl, by intros; rfl, by intros; rfl, by intros; rfl, by intros; rfl, by intros; rfl, by intros; rfl, by intros; rfl, by intros; rfl, by intros; rfl, by intros; rfl, by intros; rfl, by intros; rfl, by intros; rfl⟩
theorem r_X8_reckonExits_1 (E : zk_E) (P : zk_P zk_S) (PX : zk_X zk_S) (K : Nat → zk_L → List Value → zk_W zk_S → Prop) : (∀ (n : Nat) (l0 l1 l2 l3 l4 l5 : Option Value) (a : Nat) (r : List Value) (σ : zk_S) (sz k c : Nat), zk_run E (zk_VT E) M_X8_reckonExits (C_X8_reckonExits E) P PX K (n + 1) 69 [l0, l1, l2, l3, l4, l5] (.ref a :: r) (σ, sz, k, c) = zk_fld (zk_view E σ a) [1, 6] 6 (fun v => zk_run E (zk_VT E) M_X8_reckonExits (C_X8_reckonExits E) P PX K n 72 [l0, l1, l2, l3, l4, l5] (v :: r) (σ, sz, k, c))) ∧
  (∀ (n : Nat) (l0 l1 l2 l3 l4 l5 : Option Value) (x : Int32) (r : List Value) (σ : zk_S) (sz k c : Nat), zk_run E (zk_VT E) M_X8_reckonExits (C_X8_reckonExits E) P PX K (n + 1) 72 [l0, l1, l2, l3, l4, l5] (.int x :: r) (σ, sz, k, c) = ((¬ x = 0 → zk_run E (zk_VT E) M_X8_reckonExits (C_X8_reckonExits E) P PX K n 89 [l0, l1, l2, l3, l4, l5] r (σ, sz, k, c)) ∧ (¬ (¬ x = 0) → zk_run E (zk_VT E) M_X8_reckonExits (C_X8_reckonExits E) P PX K n 75 [l0, l1, l2, l3, l4, l5] r (σ, sz, k, c)))) ∧
  (∀ (n : Nat) (l1 l2 l3 l4 l5 : Option Value) (y0 : Value) (r : List Value) (σ : zk_S) (sz k c : Nat), zk_run E (zk_VT E) M_X8_reckonExits (C_X8_reckonExits E) P PX K (n + 1) 75 [some y0, l1, l2, l3, l4, l5] r (σ, sz, k, c) = (zk_isr y0 ∧ zk_run E (zk_VT E) M_X8_reckonExits (C_X8_reckonExits E) P PX K n 76 [some y0, l1, l2, l3, l4, l5] (y0 :: r) (σ, sz, k, c))) ∧
  (∀ (n : Nat) (l0 l2 l3 l4 l5 : Option Value) (y1 : Value) (r : List Value) (σ : zk_S) (sz k c : Nat), zk_run E (zk_VT E) M_X8_reckonExits (C_X8_reckonExits E) P PX K (n + 1) 76 [l0, some y1, l2, l3, l4, l5] r (σ, sz, k, c) = (zk_isr y1 ∧ zk_run E (zk_VT E) M_X8_reckonExits (C_X8_reckonExits E) P PX K n 77 [l0, some y1, l2, l3, l4, l5] (y1 :: r) (σ, sz, k, c))) ∧
  (∀ (n : Nat) (l0 l1 l2 l3 l5 : Option Value) (y4 : Int32) (r : List Value) (σ : zk_S) (sz k c : Nat), zk_run E (zk_VT E) M_X8_reckonExits (C_X8_reckonExits E) P PX K (n + 1) 77 [l0, l1, l2, l3, some (.int y4), l5] r (σ, sz, k, c) = zk_run E (zk_VT E) M_X8_reckonExits (C_X8_reckonExits E) P PX K n 79 [l0, l1, l2, l3, some (.int y4), l5] (.int y4 :: r) (σ, sz, k, c)) ∧
  (∀ (n : Nat) (l0 l1 l2 l3 l4 : Option Value) (y5 : Value) (r : List Value) (σ : zk_S) (sz k c : Nat), zk_run E (zk_VT E) M_X8_reckonExits (C_X8_reckonExits E) P PX K (n + 1) 79 [l0, l1, l2, l3, l4, some y5] r (σ, sz, k, c) = (zk_isr y5 ∧ zk_run E (zk_VT E) M_X8_reckonExits (C_X8_reckonExits E) P PX K n 81 [l0, l1, l2, l3, l4, some y5] (y5 :: r) (σ, sz, k, c))) ∧
  (∀ (n : Nat) (l0 l1 l2 l3 l4 l5 : Option Value) (v0 : Value) (v1 : Value) (v2 : Value) (v3 : Value)  (σ : zk_S) (sz k c : Nat), zk_run E (zk_VT E) M_X8_reckonExits (C_X8_reckonExits E) P PX K (n + 1) 81 [l0, l1, l2, l3, l4, l5] [v0, v1, v2, v3] (σ, sz, k, c) = (k + 0 ≤ 0 ∧ c + 0 ≤ 0 ∧ (zk_rv (zk_VT E) (fun ci => Nat.beq ci 7) (sp_X8_shorten E)) [v3, v2, v1, v0] σ sz (fun v s2 z2 => zk_run E (zk_VT E) M_X8_reckonExits (C_X8_reckonExits E) P PX K n 84 [l0, l1, l2, l3, l4, l5] (zk_psh v []) (s2, z2, k + 0, c + 0)) (fun X s2 z2 => PX X s2 z2))) ∧
  (∀ (n : Nat) (l0 l1 l2 l3 l4 l5 : Option Value) (x : Int32) (r : List Value) (σ : zk_S) (sz k c : Nat), zk_run E (zk_VT E) M_X8_reckonExits (C_X8_reckonExits E) P PX K (n + 1) 84 [l0, l1, l2, l3, l4, l5] (.int x :: r) (σ, sz, k, c) = ((x = 0 → zk_run E (zk_VT E) M_X8_reckonExits (C_X8_reckonExits E) P PX K n 89 [l0, l1, l2, l3, l4, l5] r (σ, sz, k, c)) ∧ (¬ (x = 0) → zk_run E (zk_VT E) M_X8_reckonExits (C_X8_reckonExits E) P PX K n 87 [l0, l1, l2, l3, l4, l5] r (σ, sz, k, c)))) ∧
  (∀ (n : Nat) (l0 l1 l2 l3 l4 l5 : Option Value)  (r : List Value) (σ : zk_S) (sz k c : Nat), zk_run E (zk_VT E) M_X8_reckonExits (C_X8_reckonExits E) P PX K (n + 1) 87 [l0, l1, l2, l3, l4, l5] r (σ, sz, k, c) = zk_run E (zk_VT E) M_X8_reckonExits (C_X8_reckonExits E) P PX K n 88 [l0, l1, l2, l3, l4, l5] (.int (1) :: r) (σ, sz, k, c)) ∧
  (∀ (n : Nat) (l0 l1 l2 l3 l4 l5 : Option Value) (x : Int32) (r : List Value) (σ : zk_S) (sz k c : Nat), zk_run E (zk_VT E) M_X8_reckonExits (C_X8_reckonExits E) P PX K (n + 1) 88 [l0, l1, l2, l3, l4, l5] (.int x :: r) (σ, sz, k, c) = zk_run E (zk_VT E) M_X8_reckonExits (C_X8_reckonExits E) P PX K n 89 [l0, zk_kl l1, some (.int x), l3, l4, l5] r (σ, sz, k, c)) ∧
  (∀ (n : Nat) (l0 l1 l2 l3 l5 : Option Value) (y4 : Int32) (r : List Value) (σ : zk_S) (sz k c : Nat), zk_run E (zk_VT E) M_X8_reckonExits (C_X8_reckonExits E) P PX K (n + 1) 89 [l0, l1, l2, l3, some (.int y4), l5] r (σ, sz, k, c) = zk_run E (zk_VT E) M_X8_reckonExits (C_X8_reckonExits E) P PX K n 92 [l0, l1, l2, zk_kl l3, some (.int (y4 + 1)), l5] r (σ, sz, k, c)) ∧
  (∀ (n : Nat) (l0 l1 l2 l3 l4 l5 : Option Value)  (r : List Value) (σ : zk_S) (sz k c : Nat), zk_run E (zk_VT E) M_X8_reckonExits (C_X8_reckonExits E) P PX K (n + 1) 92 [l0, l1, l2, l3, l4, l5] r (σ, sz, k, c) = zk_run E (zk_VT E) M_X8_reckonExits (C_X8_reckonExits E) P PX K n 47 [l0, l1, l2, l3, l4, l5] r (σ, sz, k, c)) ∧
  (∀ (n : Nat) (l0 l1 l2 l4 l5 : Option Value) (y3 : Int32) (r : List Value) (σ : zk_S) (sz k c : Nat), zk_run E (zk_VT E) M_X8_reckonExits (C_X8_reckonExits E) P PX K (n + 1) 95 [l0, l1, l2, some (.int y3), l4, l5] r (σ, sz, k, c) = zk_run E (zk_VT E) M_X8_reckonExits (C_X8_reckonExits E) P PX K n 98 [l0, l1, zk_kl l2, some (.int (y3 + 1)), l4, l5] r (σ, sz, k, c)) ∧
  (∀ (n : Nat) (l0 l1 l2 l3 l4 l5 : Option Value)  (r : List Value) (σ : zk_S) (sz k c : Nat), zk_run E (zk_VT E) M_X8_reckonExits (C_X8_reckonExits E) P PX K (n + 1) 98 [l0, l1, l2, l3, l4, l5] r (σ, sz, k, c) = zk_run E (zk_VT E) M_X8_reckonExits (C_X8_reckonExits E) P PX K n 32 [l0, l1, l2, l3, l4, l5] r (σ, sz, k, c)) ∧
  (∀ (n : Nat) (l0 l1 l2 l3 l4 l5 : Option Value)   (σ : zk_S) (sz k c : Nat), zk_run E (zk_VT E) M_X8_reckonExits (C_X8_reckonExits E) P PX K (n + 1) 101 [l0, l1, l2, l3, l4, l5] [] (σ, sz, k, c) = (P none σ sz ∧ k ≤ 0 ∧ c ≤ 0)) ∧
  (∀ (n : Nat) (l0 l1 l2 l3 l4 l5 : Option Value) (r : List Value) (w : zk_W zk_S), zk_go E (zk_VT E) M_X8_reckonExits (C_X8_reckonExits E) P PX K n 0 [l0, l1, l2, l3, l4, l5] r w = zk_run E (zk_VT E) M_X8_reckonExits (C_X8_reckonExits E) P PX K (n + 1) 0 [l0, l1, l2, l3, l4, l5] r w) ∧
  (∀ (n : Nat) (l0 l1 l3 l4 l5 : Option Value) (y2 : Int32) (r : List Value) (σ : zk_S) (sz k c : Nat), zk_go E (zk_VT E) M_X8_reckonExits (C_X8_reckonExits E) P PX K n 2 [l0, l1, some (.int y2), l3, l4, l5] r (σ, sz, k, c) = zk_run E (zk_VT E) M_X8_reckonExits (C_X8_reckonExits E) P PX K n 3 [l0, l1, some (.int y2), l3, l4, l5] (.int y2 :: r) (σ, sz, k, c)) ∧
  (∀ (n : Nat) (l0 l1 l3 l4 l5 : Option Value) (y2 : Int32) (r : List Value) (σ : zk_S) (sz k c : Nat), zk_go E (zk_VT E) M_X8_reckonExits (C_X8_reckonExits E) P PX K n 32 [l0, l1, some (.int y2), l3, l4, l5] r (σ, sz, k, c) = zk_run E (zk_VT E) M_X8_reckonExits (C_X8_reckonExits E) P PX K n 33 [l0, l1, some (.int y2), l3, l4, l5] (.int y2 :: r) (σ, sz, k, c)) ∧
  (∀ (n : Nat) (l0 l1 l2 l3 l5 : Option Value) (y4 : Int32) (r : List Value) (σ : zk_S) (sz k c : Nat), zk_go E (zk_VT E) M_X8_reckonExits (C_X8_reckonExits E) P PX K n 47 [l0, l1, l2, l3, some (.int y4), l5] r (σ, sz, k, c) = zk_run E (zk_VT E) M_X8_reckonExits (C_X8_reckonExits E) P PX K n 49 [l0, l1, l2, l3, some (.int y4), l5] (.int y4 :: r) (σ, sz, k, c)) := ⟨by intros; rfl, by intros; rfl, by intros; rfl, by intros; rfl, by intros; rfl, by intros; rfl, by intros; rfl, by intros; rfl, by intros; rfl, by intros; rfl, by intros; rfl, by intros; rfl, by intros; rfl, by intros; rfl, by intros; rfl, by intros; rfl, by intros; rfl, by intros; rfl, by intros; rfl⟩
theorem vc_X8_reckonExits (E : zk_E) : zk_VC E (zk_VT E) M_X8_reckonExits (C_X8_reckonExits E) 6 (sp_X8_reckonExits E) := by
  intro av σ sz P PX h
  obtain ⟨J, N, Q, O, U⟩ := σ
  unfold sp_X8_reckonExits at h
  split at h
  case h_2 => exact h.elim
  rename_i a0 p
  obtain ⟨rfl, h⟩ := h
  refine ⟨Nat.le_of_ble_eq_true rfl, fun G hG => ?_⟩
  change G 0 [some (.ref (zk_ad E 7)), some (.ref p), none, none, none, none] [] ((J, N, Q, O, U), sz, 0, 0)
  try dsimp only at h
  obtain ⟨rfl, J1, N1, fl, hmi, hxr, h⟩ := h
  have hx : ∀ A B, XR E sz (J, zk_un (zk_un N 8 A) 9 B, Q, O, U) J1 N1 fl := fun A B => hxr.cn rfl rfl
  have un98 : ∀ A B C D, zk_un (zk_un (zk_un (zk_un N 8 A) 9 B) 8 C) 9 D = zk_un (zk_un N 8 C) 9 D := fun A B C D => by
    funext o; unfold zk_un; split
    · rfl
    · split <;> rfl
  have fin : ∀ v A B l2 l3 l4 l5, (∀ e ∈ m_act J1 N1, v e = LL J1 N1 e) → (∀ Bd, WV J1 N1 (zk_un (zk_un N 8 A) 9 B) v Bd → ((l2 = (0 : Int32) ∨ (100 : Int32) < l3) → G 32 [some (.ref (zk_ad E 7)), some (.ref (zk_ad E 1)), some (.int l2), some (.int l3), l4, l5] [] ((J, zk_un (zk_un N 8 A) 9 B, Q, O, U), sz, 0, 0))) := by
    intro v A B l2 l3 l4 l5 hv Bd hwv hl
    have h2 := h A B (fun i hi => by
      obtain ⟨w1, w2⟩ := hwv.1 i hi
      refine ⟨?_, ?_⟩
      · rw [← a_way_wi J1 N1 (e := 2 * i) (by omega) (fun w => hv _ w) (fun w => hwv.2.2 _ w)]; exact w1
      · rw [← a_way_wi J1 N1 (e := 2 * i + 1) (by omega) (fun w => hv _ w) (fun w => hwv.2.2 _ w)]; exact w2)
    by_cases z : l2 = 0
    · (refine hG 900 _ _ _ _ ?_; simp only [r_X8_reckonExits, r_X8_reckonExits_1, zk_kl_none, zk_kl_int, zk_kl_ref, zk_kl_null, zk_kl_long, zk_kl_rf, zk_isr_ref, zk_isr_null, zk_isr_rf9, zk_c1_int, zk_c1_ref, zk_c1_null, zk_c1_rf, zk_psh_some, zk_psh_none, zk_nok_int, zk_nok_bool0, zk_nok_bool1, zk_nok_b, zk_fok_0, zk_fok_1, zk_fok_2, zk_fok_n, zk_fok_rf, zb_f, zb_p, zb_i, zb_a, zb_s, zk_nth_0, zk_nth_s, zk_fld_o, zk_put_o, zk_rv_eq, zk_ri_eq, zk_is_o, List.mem_cons, List.not_mem_nil, or_false, false_or, or_true, true_or, and_true, true_and, not_false_iff, not_true_eq_false, true_implies, false_implies, imp_self, implies_true, forall_const, zk_lit, zk_uj_ap, zk_un_ap, zk_un_un, zk_uj_uj, Nat.reduceEqDiff, eq_self, zk_bq, Bool.true_or, Bool.false_or, Nat.le_refl, Nat.zero_add, Nat.add_zero, Nat.reduceAdd, Nat.reduceLeDiff, Nat.le_zero_eq, and_self, and_false, false_and, ite_true, ite_false, Nat.zero_le, List.length_cons, List.length_nil, Option.some.injEq, forall_eq', reduceCtorEq, z])
      exact h2
    · have z2 := hl.resolve_left z
      (refine hG 900 _ _ _ _ ?_; simp only [r_X8_reckonExits, r_X8_reckonExits_1, zk_kl_none, zk_kl_int, zk_kl_ref, zk_kl_null, zk_kl_long, zk_kl_rf, zk_isr_ref, zk_isr_null, zk_isr_rf9, zk_c1_int, zk_c1_ref, zk_c1_null, zk_c1_rf, zk_psh_some, zk_psh_none, zk_nok_int, zk_nok_bool0, zk_nok_bool1, zk_nok_b, zk_fok_0, zk_fok_1, zk_fok_2, zk_fok_n, zk_fok_rf, zb_f, zb_p, zb_i, zb_a, zb_s, zk_nth_0, zk_nth_s, zk_fld_o, zk_put_o, zk_rv_eq, zk_ri_eq, zk_is_o, List.mem_cons, List.not_mem_nil, or_false, false_or, or_true, true_or, and_true, true_and, not_false_iff, not_true_eq_false, true_implies, false_implies, imp_self, implies_true, forall_const, zk_lit, zk_uj_ap, zk_un_ap, zk_un_un, zk_uj_uj, Nat.reduceEqDiff, eq_self, zk_bq, Bool.true_or, Bool.false_or, Nat.le_refl, Nat.zero_add, Nat.add_zero, Nat.reduceAdd, Nat.reduceLeDiff, Nat.le_zero_eq, and_self, and_false, false_and, ite_true, ite_false, Nat.zero_le, List.length_cons, List.length_nil, Option.some.injEq, forall_eq', reduceCtorEq, z, z2])
      exact h2
  have inner : ∀ k, k ≤ 100 → (∀ v A B b l4 l5, WV J1 N1 (zk_un (zk_un N 8 A) 9 B) v (820 * 50 * (k + 1)) → RI J1 N1 v k 50 b → (b = 0 ∨ b = 1) → G 32 [some (.ref (zk_ad E 7)), some (.ref (zk_ad E 1)), some (.int b), some (.int (nI (k + 1))), l4, l5] [] ((J, zk_un (zk_un N 8 A) 9 B, Q, O, U), sz, 0, 0)) →
      ∀ m i v A B b l5, i + m = 50 → WV J1 N1 (zk_un (zk_un N 8 A) 9 B) v (820 * 50 * k + 820 * i) → RI J1 N1 v k i b → (b = 0 ∨ b = 1) → G 47 [some (.ref (zk_ad E 7)), some (.ref (zk_ad E 1)), some (.int b), some (.int (nI k)), some (.int (nI i)), l5] [] ((J, zk_un (zk_un N 8 A) 9 B, Q, O, U), sz, 0, 0) := by
    intro k hk hout m
    induction m with
    | zero =>
      intro i v A B b l5 hi hwv hri hb
      have c1 : (50 : Int32) ≤ nI i := (nI_le (a := 50) (by omega) (by omega) : nI 50 ≤ nI i)
      have ei : i = 50 := by omega
      subst ei
      have o0 := fun l4 => hout v A B b l4 l5 (by rw [show 820 * 50 * (k + 1) = 820 * 50 * k + 820 * 50 by omega]; exact hwv) hri hb
      (refine hG 900 _ _ _ _ ?_; simp only [r_X8_reckonExits, r_X8_reckonExits_1, zk_kl_none, zk_kl_int, zk_kl_ref, zk_kl_null, zk_kl_long, zk_kl_rf, zk_isr_ref, zk_isr_null, zk_isr_rf9, zk_c1_int, zk_c1_ref, zk_c1_null, zk_c1_rf, zk_psh_some, zk_psh_none, zk_nok_int, zk_nok_bool0, zk_nok_bool1, zk_nok_b, zk_fok_0, zk_fok_1, zk_fok_2, zk_fok_n, zk_fok_rf, zb_f, zb_p, zb_i, zb_a, zb_s, zk_nth_0, zk_nth_s, zk_fld_o, zk_put_o, zk_rv_eq, zk_ri_eq, zk_is_o, List.mem_cons, List.not_mem_nil, or_false, false_or, or_true, true_or, and_true, true_and, not_false_iff, not_true_eq_false, true_implies, false_implies, imp_self, implies_true, forall_const, zk_lit, zk_uj_ap, zk_un_ap, zk_un_un, zk_uj_uj, Nat.reduceEqDiff, eq_self, zk_bq, Bool.true_or, Bool.false_or, Nat.le_refl, Nat.zero_add, Nat.add_zero, Nat.reduceAdd, Nat.reduceLeDiff, Nat.le_zero_eq, and_self, and_false, false_and, ite_true, ite_false, Nat.zero_le, List.length_cons, List.length_nil, Option.some.injEq, forall_eq', reduceCtorEq, c1, n_succ])
      exact o0 _
    | succ m ih =>
      intro i v A B b l5 hi hwv hri hb
      have c1 : ¬ (50 : Int32) ≤ nI i := (nI_ge (b := 50) (by omega) (by decide) : ¬ nI 50 ≤ nI i)
      have hin := n_isIn49 (i := i) (by omega)
      have hcl : (nI i).toNatClampNeg = i := n_cl (by omega)
      have wk : ∀ B1 B2, B1 ≤ B2 → WV J1 N1 (zk_un (zk_un N 8 A) 9 B) v B1 → WV J1 N1 (zk_un (zk_un N 8 A) 9 B) v B2 := fun B1 B2 hle w => ⟨w.1, fun e => ⟨(w.2.1 e).1, fun z => Nat.le_trans ((w.2.1 e).2 z) hle⟩, w.2.2⟩
      cases q : xat Q i with
      | none =>
        have nx := ((hx A B).exn (i := i) (by omega)).mp q
        have ih2 := fun l5 => ih (i + 1) v A B b l5 (by omega) (wk _ _ (by omega) hwv) (RI.skip (fun w => nx w.1) hri) hb
        (refine hG 900 _ _ _ _ ?_; simp only [r_X8_reckonExits, r_X8_reckonExits_1, zk_kl_none, zk_kl_int, zk_kl_ref, zk_kl_null, zk_kl_long, zk_kl_rf, zk_isr_ref, zk_isr_null, zk_isr_rf9, zk_c1_int, zk_c1_ref, zk_c1_null, zk_c1_rf, zk_psh_some, zk_psh_none, zk_nok_int, zk_nok_bool0, zk_nok_bool1, zk_nok_b, zk_fok_0, zk_fok_1, zk_fok_2, zk_fok_n, zk_fok_rf, zb_f, zb_p, zb_i, zb_a, zb_s, zk_nth_0, zk_nth_s, zk_fld_o, zk_put_o, zk_rv_eq, zk_ri_eq, zk_is_o, List.mem_cons, List.not_mem_nil, or_false, false_or, or_true, true_or, and_true, true_and, not_false_iff, not_true_eq_false, true_implies, false_implies, imp_self, implies_true, forall_const, zk_lit, zk_uj_ap, zk_un_ap, zk_un_un, zk_uj_uj, Nat.reduceEqDiff, eq_self, zk_bq, Bool.true_or, Bool.false_or, Nat.le_refl, Nat.zero_add, Nat.add_zero, Nat.reduceAdd, Nat.reduceLeDiff, Nat.le_zero_eq, and_self, and_false, false_and, ite_true, ite_false, Nat.zero_le, List.length_cons, List.length_nil, Option.some.injEq, forall_eq', reduceCtorEq, c1, spe_X5_exitAt, hin, hcl, q, va_rf_n, Bool.true_eq_false, n_succ])
        exact ih2 _
      | some c =>
        obtain ⟨hMX, hca, ci, fw, sh, rest, hci, hOc, hsh, -⟩ := (hx A B).ex (i := i) (by omega) q
        have hOc : O c = some (cX ci (rq Q (ef N1 i)) (rq Q (et N1 i)) (m_px N1 (2 * i)) (m_py N1 (2 * i)) (nI (steep (2 * i))) fw sh rest) := hOc
        have hc1 := hca.1
        have g6 : ∀ F : Value → Prop, zk_fld (O c) [1, 6] 6 F = F (.int sh) := fun F => by rw [hOc]; unfold cX; rcases hci with rfl | rfl <;> simp [zk_fld_o, zk_nth]
        by_cases o : eo N1 i
        · have s0 : sh = 0 := hsh.mpr o
          obtain ⟨st1, st2⟩ := RI.step hmi (by omega) hMX o hwv.2.2 (fun e => (hwv.2.1 e).1) hri
          have hnx := WV.next hmi (by omega) hMX o (by omega) hwv
          have hnx2 : WV J1 N1 (zk_un (zk_un N 8 (upd A i (wi (nv J1 N1 v i (2 * i))))) 9 (upd B i (wi (nv J1 N1 v i (2 * i + 1))))) (nv J1 N1 v i) (820 * 50 * k + 820 * (i + 1)) := by
            have w := hnx
            rw [un98] at w
            rw [show 820 * 50 * k + 820 * (i + 1) = 820 * 50 * k + 820 * i + 820 by omega]
            exact w
          (refine hG 900 _ _ _ _ ?_; simp only [r_X8_reckonExits, r_X8_reckonExits_1, zk_kl_none, zk_kl_int, zk_kl_ref, zk_kl_null, zk_kl_long, zk_kl_rf, zk_isr_ref, zk_isr_null, zk_isr_rf9, zk_c1_int, zk_c1_ref, zk_c1_null, zk_c1_rf, zk_psh_some, zk_psh_none, zk_nok_int, zk_nok_bool0, zk_nok_bool1, zk_nok_b, zk_fok_0, zk_fok_1, zk_fok_2, zk_fok_n, zk_fok_rf, zb_f, zb_p, zb_i, zb_a, zb_s, zk_nth_0, zk_nth_s, zk_fld_o, zk_put_o, zk_rv_eq, zk_ri_eq, zk_is_o, List.mem_cons, List.not_mem_nil, or_false, false_or, or_true, true_or, and_true, true_and, not_false_iff, not_true_eq_false, true_implies, false_implies, imp_self, implies_true, forall_const, zk_lit, zk_uj_ap, zk_un_ap, zk_un_un, zk_uj_uj, Nat.reduceEqDiff, eq_self, zk_bq, Bool.true_or, Bool.false_or, Nat.le_refl, Nat.zero_add, Nat.add_zero, Nat.reduceAdd, Nat.reduceLeDiff, Nat.le_zero_eq, and_self, and_false, false_and, ite_true, ite_false, Nat.zero_le, List.length_cons, List.length_nil, Option.some.injEq, forall_eq', reduceCtorEq, c1, spe_X5_exitAt, hin, hcl, q, va_rf_s, Bool.true_eq_false, zk_vd hc1, g6, s0, spe_X8_shorten])
          refine ⟨J1, N1, fl, v, _, i, hmi, hx A B, hwv, by omega, by omega, rfl, q, o, ?_⟩
          cases z : sb J1 N1 v i with
          | true =>
            have ih2 := fun l5 => ih (i + 1) _ _ _ 1 l5 (by omega) hnx2 (st1 z) (Or.inr rfl)
            rw [un98]
            simp only [r_X8_reckonExits, r_X8_reckonExits_1, zk_kl_none, zk_kl_int, zk_kl_ref, zk_kl_null, zk_kl_long, zk_kl_rf, zk_isr_ref, zk_isr_null, zk_isr_rf9, zk_c1_int, zk_c1_ref, zk_c1_null, zk_c1_rf, zk_psh_some, zk_psh_none, zk_nok_int, zk_nok_bool0, zk_nok_bool1, zk_nok_b, zk_fok_0, zk_fok_1, zk_fok_2, zk_fok_n, zk_fok_rf, zb_f, zb_p, zb_i, zb_a, zb_s, zk_nth_0, zk_nth_s, zk_fld_o, zk_put_o, zk_rv_eq, zk_ri_eq, zk_is_o, List.mem_cons, List.not_mem_nil, or_false, false_or, or_true, true_or, and_true, true_and, not_false_iff, not_true_eq_false, true_implies, false_implies, imp_self, implies_true, forall_const, zk_lit, zk_uj_ap, zk_un_ap, zk_un_un, zk_uj_uj, Nat.reduceEqDiff, eq_self, zk_bq, Bool.true_or, Bool.false_or, Nat.le_refl, Nat.zero_add, Nat.add_zero, Nat.reduceAdd, Nat.reduceLeDiff, Nat.le_zero_eq, and_self, and_false, false_and, ite_true, ite_false, Nat.zero_le, List.length_cons, List.length_nil, Option.some.injEq, forall_eq', reduceCtorEq, zk_b0, Bool.true_eq_false, n_succ]
            exact ih2 _
          | false =>
            have ih2 := fun l5 => ih (i + 1) _ _ _ b l5 (by omega) hnx2 (by rw [(st2 z).1]; exact (st2 z).2) hb
            rw [un98]
            simp only [r_X8_reckonExits, r_X8_reckonExits_1, zk_kl_none, zk_kl_int, zk_kl_ref, zk_kl_null, zk_kl_long, zk_kl_rf, zk_isr_ref, zk_isr_null, zk_isr_rf9, zk_c1_int, zk_c1_ref, zk_c1_null, zk_c1_rf, zk_psh_some, zk_psh_none, zk_nok_int, zk_nok_bool0, zk_nok_bool1, zk_nok_b, zk_fok_0, zk_fok_1, zk_fok_2, zk_fok_n, zk_fok_rf, zb_f, zb_p, zb_i, zb_a, zb_s, zk_nth_0, zk_nth_s, zk_fld_o, zk_put_o, zk_rv_eq, zk_ri_eq, zk_is_o, List.mem_cons, List.not_mem_nil, or_false, false_or, or_true, true_or, and_true, true_and, not_false_iff, not_true_eq_false, true_implies, false_implies, imp_self, implies_true, forall_const, zk_lit, zk_uj_ap, zk_un_ap, zk_un_un, zk_uj_uj, Nat.reduceEqDiff, eq_self, zk_bq, Bool.true_or, Bool.false_or, Nat.le_refl, Nat.zero_add, Nat.add_zero, Nat.reduceAdd, Nat.reduceLeDiff, Nat.le_zero_eq, and_self, and_false, false_and, ite_true, ite_false, Nat.zero_le, List.length_cons, List.length_nil, Option.some.injEq, forall_eq', reduceCtorEq, zk_b0, n_succ]
            exact ih2 _
        · have s0 : ¬ sh = 0 := fun w => o (hsh.mp w)
          have ih2 := fun l5 => ih (i + 1) v A B b l5 (by omega) (wk _ _ (by omega) hwv) (RI.skip (fun w => o w.2) hri) hb
          (refine hG 900 _ _ _ _ ?_; simp only [r_X8_reckonExits, r_X8_reckonExits_1, zk_kl_none, zk_kl_int, zk_kl_ref, zk_kl_null, zk_kl_long, zk_kl_rf, zk_isr_ref, zk_isr_null, zk_isr_rf9, zk_c1_int, zk_c1_ref, zk_c1_null, zk_c1_rf, zk_psh_some, zk_psh_none, zk_nok_int, zk_nok_bool0, zk_nok_bool1, zk_nok_b, zk_fok_0, zk_fok_1, zk_fok_2, zk_fok_n, zk_fok_rf, zb_f, zb_p, zb_i, zb_a, zb_s, zk_nth_0, zk_nth_s, zk_fld_o, zk_put_o, zk_rv_eq, zk_ri_eq, zk_is_o, List.mem_cons, List.not_mem_nil, or_false, false_or, or_true, true_or, and_true, true_and, not_false_iff, not_true_eq_false, true_implies, false_implies, imp_self, implies_true, forall_const, zk_lit, zk_uj_ap, zk_un_ap, zk_un_un, zk_uj_uj, Nat.reduceEqDiff, eq_self, zk_bq, Bool.true_or, Bool.false_or, Nat.le_refl, Nat.zero_add, Nat.add_zero, Nat.reduceAdd, Nat.reduceLeDiff, Nat.le_zero_eq, and_self, and_false, false_and, ite_true, ite_false, Nat.zero_le, List.length_cons, List.length_nil, Option.some.injEq, forall_eq', reduceCtorEq, c1, spe_X5_exitAt, hin, hcl, q, va_rf_s, Bool.true_eq_false, zk_vd hc1, g6, s0, n_succ])
          exact ih2 _
  have outer : ∀ m k v A B b l4 l5, k + m = 101 → WV J1 N1 (zk_un (zk_un N 8 A) 9 B) v (820 * 50 * k) → RI J1 N1 v k 0 1 → (b = 0 → ∀ e ∈ m_act J1 N1, v e ≤ FF J1 N1 v e) → (b = 0 ∨ b = 1) → G 32 [some (.ref (zk_ad E 7)), some (.ref (zk_ad E 1)), some (.int b), some (.int (nI k)), l4, l5] [] ((J, zk_un (zk_un N 8 A) 9 B, Q, O, U), sz, 0, 0) := by
    intro m
    have stop : ∀ v A B b k l4 l5 Bd, WV J1 N1 (zk_un (zk_un N 8 A) 9 B) v Bd → RI J1 N1 v k 0 1 → (b = 0 → ∀ e ∈ m_act J1 N1, v e ≤ FF J1 N1 v e) → b = 0 → G 32 [some (.ref (zk_ad E 7)), some (.ref (zk_ad E 1)), some (.int b), some (.int (nI k)), l4, l5] [] ((J, zk_un (zk_un N 8 A) 9 B, Q, O, U), sz, 0, 0) := by
      intro v A B b k l4 l5 Bd hwv hri hb hb0
      refine fin v A B b (nI k) l4 l5 (fun e he => Nat.le_antisymm ?_ (hri.1 e he).2.1) Bd hwv (Or.inl hb0)
      exact LL_ge (fun e _ => (hwv.2.1 e).1) (hb hb0) he
    induction m with
    | zero =>
      intro k v A B b l4 l5 hk hwv hri hb hb1
      have ek : k = 101 := by omega
      subst ek
      refine fin v A B b (nI 101) l4 l5 (fun e he => Nat.le_antisymm ?_ (hri.1 e he).2.1) _ hwv (Or.inr (by decide))
      have := (hri.1 e he).2.2.1
      rw [DD_100 he] at this
      exact this
    | succ m ih =>
      intro k v A B b l4 l5 hk hwv hri hb hb1
      rcases hb1 with hb0 | hb1
      · exact stop v A B b k l4 l5 _ hwv hri hb hb0
      · have c1 : ¬ (100 : Int32) < nI k := (nI_nlt (a := 100) (by omega) (by decide) : ¬ nI 100 < nI k)
        have e0 : (0 : Int32) = nI 0 := rfl
        have i0 := fun l5 => inner k (by omega) (fun v2 A2 B2 b2 l4 l5 g1 g2 g3 => ih (k + 1) v2 A2 B2 b2 l4 l5 (by omega) g1 ⟨fun e he => ⟨(g2.1 e he).1, (g2.1 e he).2.1, (g2.1 e he).2.2.2 (by have := (m_act_mem.mp he).1; omega), fun w => absurd w (by omega)⟩, fun w => absurd w (by decide)⟩ (fun w e he => g2.2 w e he (by have := (m_act_mem.mp he).1; omega)) g3) 50 0 v A B 0 l5 (by omega) (by rw [Nat.mul_zero, Nat.add_zero]; exact hwv) ⟨fun e he => ⟨(hri.1 e he).1, (hri.1 e he).2.1, (hri.1 e he).2.2.1, fun w => absurd w (by omega)⟩, fun _ e he w => absurd w (by omega)⟩ (Or.inl rfl)
        rw [show nI 0 = 0 from rfl] at i0
        subst hb1
        (refine hG 900 _ _ _ _ ?_; simp only [r_X8_reckonExits, r_X8_reckonExits_1, zk_kl_none, zk_kl_int, zk_kl_ref, zk_kl_null, zk_kl_long, zk_kl_rf, zk_isr_ref, zk_isr_null, zk_isr_rf9, zk_c1_int, zk_c1_ref, zk_c1_null, zk_c1_rf, zk_psh_some, zk_psh_none, zk_nok_int, zk_nok_bool0, zk_nok_bool1, zk_nok_b, zk_fok_0, zk_fok_1, zk_fok_2, zk_fok_n, zk_fok_rf, zb_f, zb_p, zb_i, zb_a, zb_s, zk_nth_0, zk_nth_s, zk_fld_o, zk_put_o, zk_rv_eq, zk_ri_eq, zk_is_o, List.mem_cons, List.not_mem_nil, or_false, false_or, or_true, true_or, and_true, true_and, not_false_iff, not_true_eq_false, true_implies, false_implies, imp_self, implies_true, forall_const, zk_lit, zk_uj_ap, zk_un_ap, zk_un_un, zk_uj_uj, Nat.reduceEqDiff, eq_self, zk_bq, Bool.true_or, Bool.false_or, Nat.le_refl, Nat.zero_add, Nat.add_zero, Nat.reduceAdd, Nat.reduceLeDiff, Nat.le_zero_eq, and_self, and_false, false_and, ite_true, ite_false, Nat.zero_le, List.length_cons, List.length_nil, Option.some.injEq, forall_eq', reduceCtorEq, c1])
        exact i0 _
  have first : ∀ m i A B, i + m = 50 → (∀ q, q < i → A q = -1 ∧ B q = -1) → G 2 [some (.ref (zk_ad E 7)), some (.ref (zk_ad E 1)), some (.int (nI i)), none, none, none] [] ((J, zk_un (zk_un N 8 A) 9 B, Q, O, U), sz, 0, 0) := by
    intro m
    induction m with
    | zero =>
      intro i A B hi hAB
      have c1 : (50 : Int32) ≤ nI i := (nI_le (a := 50) (by omega) (by omega) : nI 50 ≤ nI i)
      have o0 := outer 101 0 (fun _ => INF) A B 1 none none (by omega) ⟨fun q hq => by
        have wiI : wi INF = -1 := by decide
        obtain ⟨g1, g2⟩ := hAB q (by omega)
        exact ⟨by rw [wiI]; exact g1, by rw [wiI]; exact g2⟩, fun e => ⟨Nat.le_refl _, fun w => absurd w (Nat.lt_irrefl _)⟩, fun _ _ => rfl⟩ ⟨fun e he => ⟨FF_le_INF _ _ _ _, LL_le_INF e, Nat.le_refl _, fun w => absurd w (by omega)⟩, fun w => absurd w (by decide)⟩ (fun w => absurd w (by decide)) (Or.inr rfl)
      rw [show nI 0 = 0 from rfl] at o0
      (refine hG 900 _ _ _ _ ?_; simp only [r_X8_reckonExits, r_X8_reckonExits_1, zk_kl_none, zk_kl_int, zk_kl_ref, zk_kl_null, zk_kl_long, zk_kl_rf, zk_isr_ref, zk_isr_null, zk_isr_rf9, zk_c1_int, zk_c1_ref, zk_c1_null, zk_c1_rf, zk_psh_some, zk_psh_none, zk_nok_int, zk_nok_bool0, zk_nok_bool1, zk_nok_b, zk_fok_0, zk_fok_1, zk_fok_2, zk_fok_n, zk_fok_rf, zb_f, zb_p, zb_i, zb_a, zb_s, zk_nth_0, zk_nth_s, zk_fld_o, zk_put_o, zk_rv_eq, zk_ri_eq, zk_is_o, List.mem_cons, List.not_mem_nil, or_false, false_or, or_true, true_or, and_true, true_and, not_false_iff, not_true_eq_false, true_implies, false_implies, imp_self, implies_true, forall_const, zk_lit, zk_uj_ap, zk_un_ap, zk_un_un, zk_uj_uj, Nat.reduceEqDiff, eq_self, zk_bq, Bool.true_or, Bool.false_or, Nat.le_refl, Nat.zero_add, Nat.add_zero, Nat.reduceAdd, Nat.reduceLeDiff, Nat.le_zero_eq, and_self, and_false, false_and, ite_true, ite_false, Nat.zero_le, List.length_cons, List.length_nil, Option.some.injEq, forall_eq', reduceCtorEq, c1])
      exact o0
    | succ m ih =>
      intro i A B hi hAB
      have c1 : ¬ (50 : Int32) ≤ nI i := (nI_ge (b := 50) (by omega) (by decide) : ¬ nI 50 ≤ nI i)
      have hin : vp_in (nI i) 50 := n_in (by omega) (by decide)
      have hcl : (nI i).toNatClampNeg = i := n_cl (by omega)
      have ih2 := ih (i + 1) (upd A i (-1)) (upd B i (-1)) (by omega) (fun q hq => by
        by_cases z : q = i
        · rw [z, upd_self, upd_self]; exact ⟨rfl, rfl⟩
        · rw [upd_ne _ _ z, upd_ne _ _ z]; exact hAB q (by omega))
      (refine hG 900 _ _ _ _ ?_; simp only [r_X8_reckonExits, r_X8_reckonExits_1, zk_kl_none, zk_kl_int, zk_kl_ref, zk_kl_null, zk_kl_long, zk_kl_rf, zk_isr_ref, zk_isr_null, zk_isr_rf9, zk_c1_int, zk_c1_ref, zk_c1_null, zk_c1_rf, zk_psh_some, zk_psh_none, zk_nok_int, zk_nok_bool0, zk_nok_bool1, zk_nok_b, zk_fok_0, zk_fok_1, zk_fok_2, zk_fok_n, zk_fok_rf, zb_f, zb_p, zb_i, zb_a, zb_s, zk_nth_0, zk_nth_s, zk_fld_o, zk_put_o, zk_rv_eq, zk_ri_eq, zk_is_o, List.mem_cons, List.not_mem_nil, or_false, false_or, or_true, true_or, and_true, true_and, not_false_iff, not_true_eq_false, true_implies, false_implies, imp_self, implies_true, forall_const, zk_lit, zk_uj_ap, zk_un_ap, zk_un_un, zk_uj_uj, Nat.reduceEqDiff, eq_self, zk_bq, Bool.true_or, Bool.false_or, Nat.le_refl, Nat.zero_add, Nat.add_zero, Nat.reduceAdd, Nat.reduceLeDiff, Nat.le_zero_eq, and_self, and_false, false_and, ite_true, ite_false, Nat.zero_le, List.length_cons, List.length_nil, Option.some.injEq, forall_eq', reduceCtorEq, c1, hin, hcl, un98, n_succ])
      exact ih2
  have l0 := first 50 0 (N 8) (N 9) (by omega) (fun q hq => absurd hq (Nat.not_lt_zero q))
  rw [zk_un_self N 8, zk_un_self N 9] at l0
  (refine hG 900 _ _ _ _ ?_; simp only [r_X8_reckonExits, r_X8_reckonExits_1, zk_kl_none, zk_kl_int, zk_kl_ref, zk_kl_null, zk_kl_long, zk_kl_rf, zk_isr_ref, zk_isr_null, zk_isr_rf9, zk_c1_int, zk_c1_ref, zk_c1_null, zk_c1_rf, zk_psh_some, zk_psh_none, zk_nok_int, zk_nok_bool0, zk_nok_bool1, zk_nok_b, zk_fok_0, zk_fok_1, zk_fok_2, zk_fok_n, zk_fok_rf, zb_f, zb_p, zb_i, zb_a, zb_s, zk_nth_0, zk_nth_s, zk_fld_o, zk_put_o, zk_rv_eq, zk_ri_eq, zk_is_o, List.mem_cons, List.not_mem_nil, or_false, false_or, or_true, true_or, and_true, true_and, not_false_iff, not_true_eq_false, true_implies, false_implies, imp_self, implies_true, forall_const, zk_lit, zk_uj_ap, zk_un_ap, zk_un_un, zk_uj_uj, Nat.reduceEqDiff, eq_self, zk_bq, Bool.true_or, Bool.false_or, Nat.le_refl, Nat.zero_add, Nat.add_zero, Nat.reduceAdd, Nat.reduceLeDiff, Nat.le_zero_eq, and_self, and_false, false_and, ite_true, ite_false, Nat.zero_le, List.length_cons, List.length_nil, Option.some.injEq, forall_eq', reduceCtorEq])
  exact l0
theorem ct_X8_reckonExits {l : Launch} (hl : l.stackTraces = false) (E : zk_E) : zk_C l E (zk_VT E) yX8_reckonExits cX8_reckonExits 6 (none) rm_X8_reckonExits (sp_X8_reckonExits E) := by
  refine zk_meth (M := M_X8_reckonExits) (C := C_X8_reckonExits E) hl (by decide +kernel) rfl (fun _ _ => rfl) (zk_VT_ok E) MO_X8_reckonExits TO_X8_reckonExits THo_X8_reckonExits ?_ (vc_X8_reckonExits E)
  exact fun p e s m args below meth c X pc n mc ms sp2 h => by
    have h2 := zk_lka_mem h
    simp only [List.mem_cons, List.not_mem_nil, or_false, Prod.mk.injEq] at h2
    rcases h2 with ⟨rfl, rfl, rfl, rfl, rfl⟩ | ⟨rfl, rfl, rfl, rfl, rfl⟩
    · exact zk_coV (idx := 33) X (ct_X5_exitAt hl E) (List.forall_mem_cons.mpr ⟨zk_wi 118 (by decide +kernel) rfl, List.forall_mem_cons.mpr ⟨zk_wi 119 (by decide +kernel) rfl, List.forall_mem_cons.mpr ⟨zk_wi 120 (by decide +kernel) rfl, List.forall_mem_cons.mpr ⟨zk_wi 3 (by decide +kernel) rfl, List.forall_mem_cons.mpr ⟨zk_wi 121 (by decide +kernel) rfl, fun _ h => absurd h List.not_mem_nil⟩⟩⟩⟩⟩) (fun ci h => by
      have h := Nat.eq_of_beq_eq_true h
      subst h
      exact ⟨_, _, rfl⟩) (by decide +kernel) ⟨by decide, by decide, by decide +kernel⟩ ⟨by decide, by decide⟩
    · exact zk_coV (idx := 45) X (ct_X8_shorten hl E) (List.forall_mem_cons.mpr ⟨zk_wi 122 (by decide +kernel) rfl, List.forall_mem_cons.mpr ⟨zk_wi 123 (by decide +kernel) rfl, List.forall_mem_cons.mpr ⟨zk_wi 124 (by decide +kernel) rfl, List.forall_mem_cons.mpr ⟨zk_wi 4 (by decide +kernel) rfl, List.forall_mem_cons.mpr ⟨zk_wi 125 (by decide +kernel) rfl, fun _ h => absurd h List.not_mem_nil⟩⟩⟩⟩⟩) (fun ci h => by
      have h := Nat.eq_of_beq_eq_true h
      subst h
      exact ⟨_, _, rfl⟩) (by decide +kernel) ⟨by decide, by decide, by decide +kernel⟩ ⟨by decide, by decide⟩


