/-! the class: its objects, made -/
theorem po_up2 (O : zk_Hp) (a ci : Nat) (fs : List Value) (k : Nat) (v : Value) : zk_po (zk_up O a (.inr (ci, fs))) a k v = zk_up O a (.inr (ci, fs.set k v)) := by
  rw [po_up (zk_up_same O a (.inr (ci, fs))), zk_up_up]
def sp_X4_init (E : zk_E) : zk_Sp zk_S := fun av σ sz P PX => match av with
  | [.ref a, .int fl, .int x, .int y, .int up, .int w] => E.1 + 28 ≤ a ∧ (up = 0 ∨ up = 1) ∧ ∃ O0, σ.2.2.2.1 = zk_up O0 a (.inr (3, [.int 0, .int 0, .int 0, .int 0, .int 0])) ∧ P none (σ.1, σ.2.1, σ.2.2.1, zk_up O0 a (cP fl up (p_line up x y) (p_start up x y) w), σ.2.2.2.2) sz
  | _ => False
theorem spe_X4_init (E : zk_E) (a : Nat) (fl : Int32) (x : Int32) (y : Int32) (up : Int32) (w : Int32) (σ : zk_S) (sz : Nat) (P : zk_P zk_S) (PX : zk_X zk_S) : sp_X4_init E [.ref a, .int fl, .int x, .int y, .int up, .int w] σ sz P PX = (E.1 + 28 ≤ a ∧ (up = 0 ∨ up = 1) ∧ ∃ O0, σ.2.2.2.1 = zk_up O0 a (.inr (3, [.int 0, .int 0, .int 0, .int 0, .int 0])) ∧ P none (σ.1, σ.2.1, σ.2.2.1, zk_up O0 a (cP fl up (p_line up x y) (p_start up x y) w), σ.2.2.2.2) sz) := propext Iff.rfl
def C_X4_init (E : zk_E) : zk_Cl zk_S := zk_lka []
theorem r_X4_init (E : zk_E) (P : zk_P zk_S) (PX : zk_X zk_S) (K : Nat → zk_L → List Value → zk_W zk_S → Prop) : (∀ (n : Nat) (l1 l2 l3 l4 l5 : Option Value) (y0 : Value) (r : List Value) (σ : zk_S) (sz k c : Nat), zk_run E (zk_VT E) M_X4_init (C_X4_init E) P PX K (n + 1) 0 [some y0, l1, l2, l3, l4, l5] r (σ, sz, k, c) = (zk_isr y0 ∧ zk_run E (zk_VT E) M_X4_init (C_X4_init E) P PX K n 1 [some y0, l1, l2, l3, l4, l5] (y0 :: r) (σ, sz, k, c))) ∧
  (∀ (n : Nat) (l0 l1 l2 l3 l4 l5 : Option Value) (a : Nat)  (σ : zk_S) (sz k c : Nat), zk_run E (zk_VT E) M_X4_init (C_X4_init E) P PX K (n + 1) 1 [l0, l1, l2, l3, l4, l5] (.ref a :: []) (σ, sz, k, c) = zk_run E (zk_VT E) M_X4_init (C_X4_init E) P PX K n 4 [l0, l1, l2, l3, l4, l5] [] (σ, sz, k, c)) ∧
  (∀ (n : Nat) (l1 l2 l3 l4 l5 : Option Value) (y0 : Value) (r : List Value) (σ : zk_S) (sz k c : Nat), zk_run E (zk_VT E) M_X4_init (C_X4_init E) P PX K (n + 1) 4 [some y0, l1, l2, l3, l4, l5] r (σ, sz, k, c) = (zk_isr y0 ∧ zk_run E (zk_VT E) M_X4_init (C_X4_init E) P PX K n 5 [some y0, l1, l2, l3, l4, l5] (y0 :: r) (σ, sz, k, c))) ∧
  (∀ (n : Nat) (l0 l2 l3 l4 l5 : Option Value) (y1 : Int32) (r : List Value) (σ : zk_S) (sz k c : Nat), zk_run E (zk_VT E) M_X4_init (C_X4_init E) P PX K (n + 1) 5 [l0, some (.int y1), l2, l3, l4, l5] r (σ, sz, k, c) = zk_run E (zk_VT E) M_X4_init (C_X4_init E) P PX K n 6 [l0, some (.int y1), l2, l3, l4, l5] (.int y1 :: r) (σ, sz, k, c)) ∧
  (∀ (n : Nat) (l0 l1 l2 l3 l4 l5 : Option Value) (a : Nat) (v : Value) (r : List Value) (σ : zk_S) (sz k c : Nat), zk_run E (zk_VT E) M_X4_init (C_X4_init E) P PX K (n + 1) 6 [l0, l1, l2, l3, l4, l5] (v :: .ref a :: r) (σ, sz, k, c) = zk_put (zk_view E σ a) [3] 0 0 v (zk_pfok E σ a 0 v ∧ zk_run E (zk_VT E) M_X4_init (C_X4_init E) P PX K n 9 [l0, l1, l2, l3, l4, l5] r (zk_pf E σ a 0 v, sz, k, c))) ∧
  (∀ (n : Nat) (l1 l2 l3 l4 l5 : Option Value) (y0 : Value) (r : List Value) (σ : zk_S) (sz k c : Nat), zk_run E (zk_VT E) M_X4_init (C_X4_init E) P PX K (n + 1) 9 [some y0, l1, l2, l3, l4, l5] r (σ, sz, k, c) = (zk_isr y0 ∧ zk_run E (zk_VT E) M_X4_init (C_X4_init E) P PX K n 10 [some y0, l1, l2, l3, l4, l5] (y0 :: r) (σ, sz, k, c))) ∧
  (∀ (n : Nat) (l0 l1 l2 l3 l5 : Option Value) (y4 : Int32) (r : List Value) (σ : zk_S) (sz k c : Nat), zk_run E (zk_VT E) M_X4_init (C_X4_init E) P PX K (n + 1) 10 [l0, l1, l2, l3, some (.int y4), l5] r (σ, sz, k, c) = zk_run E (zk_VT E) M_X4_init (C_X4_init E) P PX K n 12 [l0, l1, l2, l3, some (.int y4), l5] (.int y4 :: r) (σ, sz, k, c)) ∧
  (∀ (n : Nat) (l0 l1 l2 l3 l4 l5 : Option Value) (a : Nat) (v : Value) (r : List Value) (σ : zk_S) (sz k c : Nat), zk_run E (zk_VT E) M_X4_init (C_X4_init E) P PX K (n + 1) 12 [l0, l1, l2, l3, l4, l5] (v :: .ref a :: r) (σ, sz, k, c) = zk_put (zk_view E σ a) [3] 1 1 v (zk_pfok E σ a 1 v ∧ zk_run E (zk_VT E) M_X4_init (C_X4_init E) P PX K n 15 [l0, l1, l2, l3, l4, l5] r (zk_pf E σ a 1 v, sz, k, c))) ∧
  (∀ (n : Nat) (l1 l2 l3 l4 l5 : Option Value) (y0 : Value) (r : List Value) (σ : zk_S) (sz k c : Nat), zk_run E (zk_VT E) M_X4_init (C_X4_init E) P PX K (n + 1) 15 [some y0, l1, l2, l3, l4, l5] r (σ, sz, k, c) = (zk_isr y0 ∧ zk_run E (zk_VT E) M_X4_init (C_X4_init E) P PX K n 16 [some y0, l1, l2, l3, l4, l5] (y0 :: r) (σ, sz, k, c))) ∧
  (∀ (n : Nat) (l0 l1 l2 l3 l5 : Option Value) (y4 : Int32) (r : List Value) (σ : zk_S) (sz k c : Nat), zk_run E (zk_VT E) M_X4_init (C_X4_init E) P PX K (n + 1) 16 [l0, l1, l2, l3, some (.int y4), l5] r (σ, sz, k, c) = zk_run E (zk_VT E) M_X4_init (C_X4_init E) P PX K n 18 [l0, l1, l2, l3, some (.int y4), l5] (.int y4 :: r) (σ, sz, k, c)) ∧
  (∀ (n : Nat) (l0 l1 l2 l3 l4 l5 : Option Value) (x : Int32) (r : List Value) (σ : zk_S) (sz k c : Nat), zk_run E (zk_VT E) M_X4_init (C_X4_init E) P PX K (n + 1) 18 [l0, l1, l2, l3, l4, l5] (.int x :: r) (σ, sz, k, c) = ((x = 0 → zk_run E (zk_VT E) M_X4_init (C_X4_init E) P PX K n 25 [l0, l1, l2, l3, l4, l5] r (σ, sz, k, c)) ∧ (¬ (x = 0) → zk_run E (zk_VT E) M_X4_init (C_X4_init E) P PX K n 21 [l0, l1, l2, l3, l4, l5] r (σ, sz, k, c)))) ∧
  (∀ (n : Nat) (l0 l1 l3 l4 l5 : Option Value) (y2 : Int32) (r : List Value) (σ : zk_S) (sz k c : Nat), zk_run E (zk_VT E) M_X4_init (C_X4_init E) P PX K (n + 1) 21 [l0, l1, some (.int y2), l3, l4, l5] r (σ, sz, k, c) = zk_run E (zk_VT E) M_X4_init (C_X4_init E) P PX K n 22 [l0, l1, some (.int y2), l3, l4, l5] (.int y2 :: r) (σ, sz, k, c)) ∧
  (∀ (n : Nat) (l0 l1 l2 l3 l4 l5 : Option Value)  (r : List Value) (σ : zk_S) (sz k c : Nat), zk_run E (zk_VT E) M_X4_init (C_X4_init E) P PX K (n + 1) 22 [l0, l1, l2, l3, l4, l5] r (σ, sz, k, c) = zk_run E (zk_VT E) M_X4_init (C_X4_init E) P PX K n 26 [l0, l1, l2, l3, l4, l5] r (σ, sz, k, c)) ∧
  (∀ (n : Nat) (l0 l1 l2 l4 l5 : Option Value) (y3 : Int32) (r : List Value) (σ : zk_S) (sz k c : Nat), zk_run E (zk_VT E) M_X4_init (C_X4_init E) P PX K (n + 1) 25 [l0, l1, l2, some (.int y3), l4, l5] r (σ, sz, k, c) = zk_run E (zk_VT E) M_X4_init (C_X4_init E) P PX K n 26 [l0, l1, l2, some (.int y3), l4, l5] (.int y3 :: r) (σ, sz, k, c)) ∧
  (∀ (n : Nat) (l0 l1 l2 l3 l4 l5 : Option Value) (a : Nat) (v : Value) (r : List Value) (σ : zk_S) (sz k c : Nat), zk_run E (zk_VT E) M_X4_init (C_X4_init E) P PX K (n + 1) 26 [l0, l1, l2, l3, l4, l5] (v :: .ref a :: r) (σ, sz, k, c) = zk_put (zk_view E σ a) [3] 2 0 v (zk_pfok E σ a 2 v ∧ zk_run E (zk_VT E) M_X4_init (C_X4_init E) P PX K n 29 [l0, l1, l2, l3, l4, l5] r (zk_pf E σ a 2 v, sz, k, c))) ∧
  (∀ (n : Nat) (l1 l2 l3 l4 l5 : Option Value) (y0 : Value) (r : List Value) (σ : zk_S) (sz k c : Nat), zk_run E (zk_VT E) M_X4_init (C_X4_init E) P PX K (n + 1) 29 [some y0, l1, l2, l3, l4, l5] r (σ, sz, k, c) = (zk_isr y0 ∧ zk_run E (zk_VT E) M_X4_init (C_X4_init E) P PX K n 30 [some y0, l1, l2, l3, l4, l5] (y0 :: r) (σ, sz, k, c))) ∧
  (∀ (n : Nat) (l0 l1 l2 l3 l5 : Option Value) (y4 : Int32) (r : List Value) (σ : zk_S) (sz k c : Nat), zk_run E (zk_VT E) M_X4_init (C_X4_init E) P PX K (n + 1) 30 [l0, l1, l2, l3, some (.int y4), l5] r (σ, sz, k, c) = zk_run E (zk_VT E) M_X4_init (C_X4_init E) P PX K n 32 [l0, l1, l2, l3, some (.int y4), l5] (.int y4 :: r) (σ, sz, k, c)) ∧
  (∀ (n : Nat) (l0 l1 l2 l3 l4 l5 : Option Value) (x : Int32) (r : List Value) (σ : zk_S) (sz k c : Nat), zk_run E (zk_VT E) M_X4_init (C_X4_init E) P PX K (n + 1) 32 [l0, l1, l2, l3, l4, l5] (.int x :: r) (σ, sz, k, c) = ((x = 0 → zk_run E (zk_VT E) M_X4_init (C_X4_init E) P PX K n 39 [l0, l1, l2, l3, l4, l5] r (σ, sz, k, c)) ∧ (¬ (x = 0) → zk_run E (zk_VT E) M_X4_init (C_X4_init E) P PX K n 35 [l0, l1, l2, l3, l4, l5] r (σ, sz, k, c)))) ∧
  (∀ (n : Nat) (l0 l1 l2 l4 l5 : Option Value) (y3 : Int32) (r : List Value) (σ : zk_S) (sz k c : Nat), zk_run E (zk_VT E) M_X4_init (C_X4_init E) P PX K (n + 1) 35 [l0, l1, l2, some (.int y3), l4, l5] r (σ, sz, k, c) = zk_run E (zk_VT E) M_X4_init (C_X4_init E) P PX K n 36 [l0, l1, l2, some (.int y3), l4, l5] (.int y3 :: r) (σ, sz, k, c)) ∧
  (∀ (n : Nat) (l0 l1 l2 l3 l4 l5 : Option Value)  (r : List Value) (σ : zk_S) (sz k c : Nat), zk_run E (zk_VT E) M_X4_init (C_X4_init E) P PX K (n + 1) 36 [l0, l1, l2, l3, l4, l5] r (σ, sz, k, c) = zk_run E (zk_VT E) M_X4_init (C_X4_init E) P PX K n 40 [l0, l1, l2, l3, l4, l5] r (σ, sz, k, c)) ∧
  (∀ (n : Nat) (l0 l1 l3 l4 l5 : Option Value) (y2 : Int32) (r : List Value) (σ : zk_S) (sz k c : Nat), zk_run E (zk_VT E) M_X4_init (C_X4_init E) P PX K (n + 1) 39 [l0, l1, some (.int y2), l3, l4, l5] r (σ, sz, k, c) = zk_run E (zk_VT E) M_X4_init (C_X4_init E) P PX K n 40 [l0, l1, some (.int y2), l3, l4, l5] (.int y2 :: r) (σ, sz, k, c)) ∧
  (∀ (n : Nat) (l0 l1 l2 l3 l4 l5 : Option Value) (a : Nat) (v : Value) (r : List Value) (σ : zk_S) (sz k c : Nat), zk_run E (zk_VT E) M_X4_init (C_X4_init E) P PX K (n + 1) 40 [l0, l1, l2, l3, l4, l5] (v :: .ref a :: r) (σ, sz, k, c) = zk_put (zk_view E σ a) [3] 3 0 v (zk_pfok E σ a 3 v ∧ zk_run E (zk_VT E) M_X4_init (C_X4_init E) P PX K n 43 [l0, l1, l2, l3, l4, l5] r (zk_pf E σ a 3 v, sz, k, c))) ∧
  (∀ (n : Nat) (l1 l2 l3 l4 l5 : Option Value) (y0 : Value) (r : List Value) (σ : zk_S) (sz k c : Nat), zk_run E (zk_VT E) M_X4_init (C_X4_init E) P PX K (n + 1) 43 [some y0, l1, l2, l3, l4, l5] r (σ, sz, k, c) = (zk_isr y0 ∧ zk_run E (zk_VT E) M_X4_init (C_X4_init E) P PX K n 44 [some y0, l1, l2, l3, l4, l5] (y0 :: r) (σ, sz, k, c))) ∧
  (∀ (n : Nat) (l0 l1 l2 l3 l4 : Option Value) (y5 : Int32) (r : List Value) (σ : zk_S) (sz k c : Nat), zk_run E (zk_VT E) M_X4_init (C_X4_init E) P PX K (n + 1) 44 [l0, l1, l2, l3, l4, some (.int y5)] r (σ, sz, k, c) = zk_run E (zk_VT E) M_X4_init (C_X4_init E) P PX K n 46 [l0, l1, l2, l3, l4, some (.int y5)] (.int y5 :: r) (σ, sz, k, c)) ∧
  (∀ (n : Nat) (l0 l1 l2 l3 l4 l5 : Option Value) (a : Nat) (v : Value) (r : List Value) (σ : zk_S) (sz k c : Nat), zk_run E (zk_VT E) M_X4_init (C_X4_init E) P PX K (n + 1) 46 [l0, l1, l2, l3, l4, l5] (v :: .ref a :: r) (σ, sz, k, c) = zk_put (zk_view E σ a) [3] 4 0 v (zk_pfok E σ a 4 v ∧ zk_run E (zk_VT E) M_X4_init (C_X4_init E) P PX K n 49 [l0, l1, l2, l3, l4, l5] r (zk_pf E σ a 4 v, sz, k, c))) ∧
  (∀ (n : Nat) (l0 l1 l2 l3 l4 l5 : Option Value)   (σ : zk_S) (sz k c : Nat), zk_run E (zk_VT E) M_X4_init (C_X4_init E) P PX K (n + 1) 49 [l0, l1, l2, l3, l4, l5] [] (σ, sz, k, c) = (P none σ sz ∧ k ≤ 0 ∧ c ≤ 0)) ∧
  (∀ (n : Nat) (l0 l1 l2 l3 l4 l5 : Option Value) (r : List Value) (w : zk_W zk_S), zk_go E (zk_VT E) M_X4_init (C_X4_init E) P PX K n 0 [l0, l1, l2, l3, l4, l5] r w = zk_run E (zk_VT E) M_X4_init (C_X4_init E) P PX K (n + 1) 0 [l0, l1, l2, l3, l4, l5] r w) := ⟨by intros; rfl, by intros; rfl, by intros; rfl, by intros; rfl, by intros; rfl, by intros; rfl, by intros; rfl, by intros; rfl, by intros; rfl, by intros; rfl, by intros; rfl, by intros; rfl, by intros; rfl, by intros; rfl, by intros; rfl, by intros; rfl, by intros; rfl, by intros; rfl, by intros; rfl, by intros; rfl, by intros; rfl, by intros; rfl, by intros; rfl, by intros; rfl, by intros; rfl, by intros; rfl, by intros; rfl⟩
theorem vc_X4_init (E : zk_E) : zk_VC E (zk_VT E) M_X4_init (C_X4_init E) 6 (sp_X4_init E) := by
  intro av σ sz P PX h
  obtain ⟨J, N, Q, O, U⟩ := σ
  unfold sp_X4_init at h
  split at h
  case h_2 => exact h.elim
  rename_i a fl x y up w
  refine ⟨Nat.le_of_ble_eq_true rfl, fun G hG => ?_⟩
  change G 0 [some (.ref (a)), some (.int fl), some (.int x), some (.int y), some (.int up), some (.int w)] [] ((J, N, Q, O, U), sz, 0, 0)
  try dsimp only at h
  obtain ⟨ha, hup, O0, rfl, h⟩ := h
  unfold cP p_line p_start at h
  have n10 : ¬ (1 : Int32) = 0 := by decide
  rcases hup with rfl | rfl
  · rw [if_pos rfl, if_pos rfl] at h
    (refine hG 900 _ _ _ _ ?_; simp only [r_X4_init, zk_vd ha, zk_pfd _ _ ha, zk_pod _ _ ha, po_up2, zk_up_same, List.set_cons_zero, List.set_cons_succ, Nat.reduceLT])
    exact h
  · rw [if_neg n10, if_neg n10] at h
    (refine hG 900 _ _ _ _ ?_; simp only [r_X4_init, zk_vd ha, zk_pfd _ _ ha, zk_pod _ _ ha, po_up2, zk_up_same, List.set_cons_zero, List.set_cons_succ, Nat.reduceLT, n10])
    exact h
theorem ct_X4_init {l : Launch} (hl : l.stackTraces = false) (E : zk_E) : zk_C l E (zk_VT E) yX4_init cX4_init 6 (none) rm_X4_init (sp_X4_init E) := by
  refine zk_meth (M := M_X4_init) (C := C_X4_init E) hl (by decide +kernel) rfl (fun _ _ => rfl) (zk_VT_ok E) MO_X4_init TO_X4_init THo_X4_init ?_ (vc_X4_init E)
  exact fun p e s m args below meth c X pc n mc ms sp2 h => absurd (zk_lka_mem h) List.not_mem_nil
def sp_X6_init (E : zk_E) : zk_Sp zk_S := fun av σ sz P PX => match av with
  | [.ref a, .int n, .int fl, .int x, .int y, .int w, .int h, .int u] => E.1 + 28 ≤ a ∧ ∃ O0, σ.2.2.2.1 = zk_up O0 a (.inr (5, [.int 0, .int 0, .int 0, .int 0, .int 0, .int 0, .int 0, .int 0])) ∧ P none (σ.1, σ.2.1, σ.2.2.1, zk_up O0 a (cR n fl x y w h u 0), σ.2.2.2.2) sz
  | _ => False
theorem spe_X6_init (E : zk_E) (a : Nat) (n : Int32) (fl : Int32) (x : Int32) (y : Int32) (w : Int32) (h : Int32) (u : Int32) (σ : zk_S) (sz : Nat) (P : zk_P zk_S) (PX : zk_X zk_S) : sp_X6_init E [.ref a, .int n, .int fl, .int x, .int y, .int w, .int h, .int u] σ sz P PX = (E.1 + 28 ≤ a ∧ ∃ O0, σ.2.2.2.1 = zk_up O0 a (.inr (5, [.int 0, .int 0, .int 0, .int 0, .int 0, .int 0, .int 0, .int 0])) ∧ P none (σ.1, σ.2.1, σ.2.2.1, zk_up O0 a (cR n fl x y w h u 0), σ.2.2.2.2) sz) := propext Iff.rfl
def C_X6_init (E : zk_E) : zk_Cl zk_S := zk_lka []
theorem r_X6_init (E : zk_E) (P : zk_P zk_S) (PX : zk_X zk_S) (K : Nat → zk_L → List Value → zk_W zk_S → Prop) : (∀ (n : Nat) (l1 l2 l3 l4 l5 l6 l7 : Option Value) (y0 : Value) (r : List Value) (σ : zk_S) (sz k c : Nat), zk_run E (zk_VT E) M_X6_init (C_X6_init E) P PX K (n + 1) 0 [some y0, l1, l2, l3, l4, l5, l6, l7] r (σ, sz, k, c) = (zk_isr y0 ∧ zk_run E (zk_VT E) M_X6_init (C_X6_init E) P PX K n 1 [some y0, l1, l2, l3, l4, l5, l6, l7] (y0 :: r) (σ, sz, k, c))) ∧
  (∀ (n : Nat) (l0 l1 l2 l3 l4 l5 l6 l7 : Option Value) (a : Nat)  (σ : zk_S) (sz k c : Nat), zk_run E (zk_VT E) M_X6_init (C_X6_init E) P PX K (n + 1) 1 [l0, l1, l2, l3, l4, l5, l6, l7] (.ref a :: []) (σ, sz, k, c) = zk_run E (zk_VT E) M_X6_init (C_X6_init E) P PX K n 4 [l0, l1, l2, l3, l4, l5, l6, l7] [] (σ, sz, k, c)) ∧
  (∀ (n : Nat) (l1 l2 l3 l4 l5 l6 l7 : Option Value) (y0 : Value) (r : List Value) (σ : zk_S) (sz k c : Nat), zk_run E (zk_VT E) M_X6_init (C_X6_init E) P PX K (n + 1) 4 [some y0, l1, l2, l3, l4, l5, l6, l7] r (σ, sz, k, c) = (zk_isr y0 ∧ zk_run E (zk_VT E) M_X6_init (C_X6_init E) P PX K n 5 [some y0, l1, l2, l3, l4, l5, l6, l7] (y0 :: r) (σ, sz, k, c))) ∧
  (∀ (n : Nat) (l0 l2 l3 l4 l5 l6 l7 : Option Value) (y1 : Int32) (r : List Value) (σ : zk_S) (sz k c : Nat), zk_run E (zk_VT E) M_X6_init (C_X6_init E) P PX K (n + 1) 5 [l0, some (.int y1), l2, l3, l4, l5, l6, l7] r (σ, sz, k, c) = zk_run E (zk_VT E) M_X6_init (C_X6_init E) P PX K n 6 [l0, some (.int y1), l2, l3, l4, l5, l6, l7] (.int y1 :: r) (σ, sz, k, c)) ∧
  (∀ (n : Nat) (l0 l1 l2 l3 l4 l5 l6 l7 : Option Value) (a : Nat) (v : Value) (r : List Value) (σ : zk_S) (sz k c : Nat), zk_run E (zk_VT E) M_X6_init (C_X6_init E) P PX K (n + 1) 6 [l0, l1, l2, l3, l4, l5, l6, l7] (v :: .ref a :: r) (σ, sz, k, c) = zk_put (zk_view E σ a) [5] 0 0 v (zk_pfok E σ a 0 v ∧ zk_run E (zk_VT E) M_X6_init (C_X6_init E) P PX K n 9 [l0, l1, l2, l3, l4, l5, l6, l7] r (zk_pf E σ a 0 v, sz, k, c))) ∧
  (∀ (n : Nat) (l1 l2 l3 l4 l5 l6 l7 : Option Value) (y0 : Value) (r : List Value) (σ : zk_S) (sz k c : Nat), zk_run E (zk_VT E) M_X6_init (C_X6_init E) P PX K (n + 1) 9 [some y0, l1, l2, l3, l4, l5, l6, l7] r (σ, sz, k, c) = (zk_isr y0 ∧ zk_run E (zk_VT E) M_X6_init (C_X6_init E) P PX K n 10 [some y0, l1, l2, l3, l4, l5, l6, l7] (y0 :: r) (σ, sz, k, c))) ∧
  (∀ (n : Nat) (l0 l1 l3 l4 l5 l6 l7 : Option Value) (y2 : Int32) (r : List Value) (σ : zk_S) (sz k c : Nat), zk_run E (zk_VT E) M_X6_init (C_X6_init E) P PX K (n + 1) 10 [l0, l1, some (.int y2), l3, l4, l5, l6, l7] r (σ, sz, k, c) = zk_run E (zk_VT E) M_X6_init (C_X6_init E) P PX K n 11 [l0, l1, some (.int y2), l3, l4, l5, l6, l7] (.int y2 :: r) (σ, sz, k, c)) ∧
  (∀ (n : Nat) (l0 l1 l2 l3 l4 l5 l6 l7 : Option Value) (a : Nat) (v : Value) (r : List Value) (σ : zk_S) (sz k c : Nat), zk_run E (zk_VT E) M_X6_init (C_X6_init E) P PX K (n + 1) 11 [l0, l1, l2, l3, l4, l5, l6, l7] (v :: .ref a :: r) (σ, sz, k, c) = zk_put (zk_view E σ a) [5] 1 0 v (zk_pfok E σ a 1 v ∧ zk_run E (zk_VT E) M_X6_init (C_X6_init E) P PX K n 14 [l0, l1, l2, l3, l4, l5, l6, l7] r (zk_pf E σ a 1 v, sz, k, c))) ∧
  (∀ (n : Nat) (l1 l2 l3 l4 l5 l6 l7 : Option Value) (y0 : Value) (r : List Value) (σ : zk_S) (sz k c : Nat), zk_run E (zk_VT E) M_X6_init (C_X6_init E) P PX K (n + 1) 14 [some y0, l1, l2, l3, l4, l5, l6, l7] r (σ, sz, k, c) = (zk_isr y0 ∧ zk_run E (zk_VT E) M_X6_init (C_X6_init E) P PX K n 15 [some y0, l1, l2, l3, l4, l5, l6, l7] (y0 :: r) (σ, sz, k, c))) ∧
  (∀ (n : Nat) (l0 l1 l2 l4 l5 l6 l7 : Option Value) (y3 : Int32) (r : List Value) (σ : zk_S) (sz k c : Nat), zk_run E (zk_VT E) M_X6_init (C_X6_init E) P PX K (n + 1) 15 [l0, l1, l2, some (.int y3), l4, l5, l6, l7] r (σ, sz, k, c) = zk_run E (zk_VT E) M_X6_init (C_X6_init E) P PX K n 16 [l0, l1, l2, some (.int y3), l4, l5, l6, l7] (.int y3 :: r) (σ, sz, k, c)) ∧
  (∀ (n : Nat) (l0 l1 l2 l3 l4 l5 l6 l7 : Option Value) (a : Nat) (v : Value) (r : List Value) (σ : zk_S) (sz k c : Nat), zk_run E (zk_VT E) M_X6_init (C_X6_init E) P PX K (n + 1) 16 [l0, l1, l2, l3, l4, l5, l6, l7] (v :: .ref a :: r) (σ, sz, k, c) = zk_put (zk_view E σ a) [5] 2 0 v (zk_pfok E σ a 2 v ∧ zk_run E (zk_VT E) M_X6_init (C_X6_init E) P PX K n 19 [l0, l1, l2, l3, l4, l5, l6, l7] r (zk_pf E σ a 2 v, sz, k, c))) ∧
  (∀ (n : Nat) (l1 l2 l3 l4 l5 l6 l7 : Option Value) (y0 : Value) (r : List Value) (σ : zk_S) (sz k c : Nat), zk_run E (zk_VT E) M_X6_init (C_X6_init E) P PX K (n + 1) 19 [some y0, l1, l2, l3, l4, l5, l6, l7] r (σ, sz, k, c) = (zk_isr y0 ∧ zk_run E (zk_VT E) M_X6_init (C_X6_init E) P PX K n 20 [some y0, l1, l2, l3, l4, l5, l6, l7] (y0 :: r) (σ, sz, k, c))) ∧
  (∀ (n : Nat) (l0 l1 l2 l3 l5 l6 l7 : Option Value) (y4 : Int32) (r : List Value) (σ : zk_S) (sz k c : Nat), zk_run E (zk_VT E) M_X6_init (C_X6_init E) P PX K (n + 1) 20 [l0, l1, l2, l3, some (.int y4), l5, l6, l7] r (σ, sz, k, c) = zk_run E (zk_VT E) M_X6_init (C_X6_init E) P PX K n 22 [l0, l1, l2, l3, some (.int y4), l5, l6, l7] (.int y4 :: r) (σ, sz, k, c)) ∧
  (∀ (n : Nat) (l0 l1 l2 l3 l4 l5 l6 l7 : Option Value) (a : Nat) (v : Value) (r : List Value) (σ : zk_S) (sz k c : Nat), zk_run E (zk_VT E) M_X6_init (C_X6_init E) P PX K (n + 1) 22 [l0, l1, l2, l3, l4, l5, l6, l7] (v :: .ref a :: r) (σ, sz, k, c) = zk_put (zk_view E σ a) [5] 3 0 v (zk_pfok E σ a 3 v ∧ zk_run E (zk_VT E) M_X6_init (C_X6_init E) P PX K n 25 [l0, l1, l2, l3, l4, l5, l6, l7] r (zk_pf E σ a 3 v, sz, k, c))) ∧
  (∀ (n : Nat) (l1 l2 l3 l4 l5 l6 l7 : Option Value) (y0 : Value) (r : List Value) (σ : zk_S) (sz k c : Nat), zk_run E (zk_VT E) M_X6_init (C_X6_init E) P PX K (n + 1) 25 [some y0, l1, l2, l3, l4, l5, l6, l7] r (σ, sz, k, c) = (zk_isr y0 ∧ zk_run E (zk_VT E) M_X6_init (C_X6_init E) P PX K n 26 [some y0, l1, l2, l3, l4, l5, l6, l7] (y0 :: r) (σ, sz, k, c))) ∧
  (∀ (n : Nat) (l0 l1 l2 l3 l4 l6 l7 : Option Value) (y5 : Int32) (r : List Value) (σ : zk_S) (sz k c : Nat), zk_run E (zk_VT E) M_X6_init (C_X6_init E) P PX K (n + 1) 26 [l0, l1, l2, l3, l4, some (.int y5), l6, l7] r (σ, sz, k, c) = zk_run E (zk_VT E) M_X6_init (C_X6_init E) P PX K n 28 [l0, l1, l2, l3, l4, some (.int y5), l6, l7] (.int y5 :: r) (σ, sz, k, c)) ∧
  (∀ (n : Nat) (l0 l1 l2 l3 l4 l5 l6 l7 : Option Value) (a : Nat) (v : Value) (r : List Value) (σ : zk_S) (sz k c : Nat), zk_run E (zk_VT E) M_X6_init (C_X6_init E) P PX K (n + 1) 28 [l0, l1, l2, l3, l4, l5, l6, l7] (v :: .ref a :: r) (σ, sz, k, c) = zk_put (zk_view E σ a) [5] 4 0 v (zk_pfok E σ a 4 v ∧ zk_run E (zk_VT E) M_X6_init (C_X6_init E) P PX K n 31 [l0, l1, l2, l3, l4, l5, l6, l7] r (zk_pf E σ a 4 v, sz, k, c))) ∧
  (∀ (n : Nat) (l1 l2 l3 l4 l5 l6 l7 : Option Value) (y0 : Value) (r : List Value) (σ : zk_S) (sz k c : Nat), zk_run E (zk_VT E) M_X6_init (C_X6_init E) P PX K (n + 1) 31 [some y0, l1, l2, l3, l4, l5, l6, l7] r (σ, sz, k, c) = (zk_isr y0 ∧ zk_run E (zk_VT E) M_X6_init (C_X6_init E) P PX K n 32 [some y0, l1, l2, l3, l4, l5, l6, l7] (y0 :: r) (σ, sz, k, c))) ∧
  (∀ (n : Nat) (l0 l1 l2 l3 l4 l5 l7 : Option Value) (y6 : Int32) (r : List Value) (σ : zk_S) (sz k c : Nat), zk_run E (zk_VT E) M_X6_init (C_X6_init E) P PX K (n + 1) 32 [l0, l1, l2, l3, l4, l5, some (.int y6), l7] r (σ, sz, k, c) = zk_run E (zk_VT E) M_X6_init (C_X6_init E) P PX K n 34 [l0, l1, l2, l3, l4, l5, some (.int y6), l7] (.int y6 :: r) (σ, sz, k, c)) ∧
  (∀ (n : Nat) (l0 l1 l2 l3 l4 l5 l6 l7 : Option Value) (a : Nat) (v : Value) (r : List Value) (σ : zk_S) (sz k c : Nat), zk_run E (zk_VT E) M_X6_init (C_X6_init E) P PX K (n + 1) 34 [l0, l1, l2, l3, l4, l5, l6, l7] (v :: .ref a :: r) (σ, sz, k, c) = zk_put (zk_view E σ a) [5] 5 0 v (zk_pfok E σ a 5 v ∧ zk_run E (zk_VT E) M_X6_init (C_X6_init E) P PX K n 37 [l0, l1, l2, l3, l4, l5, l6, l7] r (zk_pf E σ a 5 v, sz, k, c))) ∧
  (∀ (n : Nat) (l1 l2 l3 l4 l5 l6 l7 : Option Value) (y0 : Value) (r : List Value) (σ : zk_S) (sz k c : Nat), zk_run E (zk_VT E) M_X6_init (C_X6_init E) P PX K (n + 1) 37 [some y0, l1, l2, l3, l4, l5, l6, l7] r (σ, sz, k, c) = (zk_isr y0 ∧ zk_run E (zk_VT E) M_X6_init (C_X6_init E) P PX K n 38 [some y0, l1, l2, l3, l4, l5, l6, l7] (y0 :: r) (σ, sz, k, c))) ∧
  (∀ (n : Nat) (l0 l1 l2 l3 l4 l5 l6 : Option Value) (y7 : Int32) (r : List Value) (σ : zk_S) (sz k c : Nat), zk_run E (zk_VT E) M_X6_init (C_X6_init E) P PX K (n + 1) 38 [l0, l1, l2, l3, l4, l5, l6, some (.int y7)] r (σ, sz, k, c) = zk_run E (zk_VT E) M_X6_init (C_X6_init E) P PX K n 40 [l0, l1, l2, l3, l4, l5, l6, some (.int y7)] (.int y7 :: r) (σ, sz, k, c)) ∧
  (∀ (n : Nat) (l0 l1 l2 l3 l4 l5 l6 l7 : Option Value) (a : Nat) (v : Value) (r : List Value) (σ : zk_S) (sz k c : Nat), zk_run E (zk_VT E) M_X6_init (C_X6_init E) P PX K (n + 1) 40 [l0, l1, l2, l3, l4, l5, l6, l7] (v :: .ref a :: r) (σ, sz, k, c) = zk_put (zk_view E σ a) [5] 6 0 v (zk_pfok E σ a 6 v ∧ zk_run E (zk_VT E) M_X6_init (C_X6_init E) P PX K n 43 [l0, l1, l2, l3, l4, l5, l6, l7] r (zk_pf E σ a 6 v, sz, k, c))) ∧
  (∀ (n : Nat) (l0 l1 l2 l3 l4 l5 l6 l7 : Option Value)   (σ : zk_S) (sz k c : Nat), zk_run E (zk_VT E) M_X6_init (C_X6_init E) P PX K (n + 1) 43 [l0, l1, l2, l3, l4, l5, l6, l7] [] (σ, sz, k, c) = (P none σ sz ∧ k ≤ 0 ∧ c ≤ 0)) ∧
  (∀ (n : Nat) (l0 l1 l2 l3 l4 l5 l6 l7 : Option Value) (r : List Value) (w : zk_W zk_S), zk_go E (zk_VT E) M_X6_init (C_X6_init E) P PX K n 0 [l0, l1, l2, l3, l4, l5, l6, l7] r w = zk_run E (zk_VT E) M_X6_init (C_X6_init E) P PX K (n + 1) 0 [l0, l1, l2, l3, l4, l5, l6, l7] r w) := ⟨by intros; rfl, by intros; rfl, by intros; rfl, by intros; rfl, by intros; rfl, by intros; rfl, by intros; rfl, by intros; rfl, by intros; rfl, by intros; rfl, by intros; rfl, by intros; rfl, by intros; rfl, by intros; rfl, by intros; rfl, by intros; rfl, by intros; rfl, by intros; rfl, by intros; rfl, by intros; rfl, by intros; rfl, by intros; rfl, by intros; rfl, by intros; rfl, by intros; rfl⟩
theorem vc_X6_init (E : zk_E) : zk_VC E (zk_VT E) M_X6_init (C_X6_init E) 8 (sp_X6_init E) := by
  intro av σ sz P PX h
  obtain ⟨J, N, Q, O, U⟩ := σ
  unfold sp_X6_init at h
  split at h
  case h_2 => exact h.elim
  rename_i a n fl x y w hh u
  refine ⟨Nat.le_of_ble_eq_true rfl, fun G hG => ?_⟩
  change G 0 [some (.ref (a)), some (.int n), some (.int fl), some (.int x), some (.int y), some (.int w), some (.int hh), some (.int u)] [] ((J, N, Q, O, U), sz, 0, 0)
  try dsimp only at h
  obtain ⟨ha, O0, rfl, h⟩ := h
  unfold cR at h
  (refine hG 900 _ _ _ _ ?_; simp only [r_X6_init, zk_vd ha, zk_pfd _ _ ha, zk_pod _ _ ha, po_up2, zk_up_same, List.set_cons_zero, List.set_cons_succ, Nat.reduceLT])
  exact h
theorem ct_X6_init {l : Launch} (hl : l.stackTraces = false) (E : zk_E) : zk_C l E (zk_VT E) yX6_init cX6_init 8 (none) rm_X6_init (sp_X6_init E) := by
  refine zk_meth (M := M_X6_init) (C := C_X6_init E) hl (by decide +kernel) rfl (fun _ _ => rfl) (zk_VT_ok E) MO_X6_init TO_X6_init THo_X6_init ?_ (vc_X6_init E)
  exact fun p e s m args below meth c X pc n mc ms sp2 h => absurd (zk_lka_mem h) List.not_mem_nil
def sp_X2_init (E : zk_E) : zk_Sp zk_S := fun av σ sz P PX => match av with
  | [.ref a, .ref f, t, .int mx, .int my, .int ln, .int fw] => E.1 + 28 ≤ a ∧ ∃ O0 ci bt sh rest, (ci = 1 ∨ ci = 6) ∧ t = va_rf bt ∧ σ.2.2.2.1 = zk_up O0 a (cX ci none none 0 0 0 0 sh rest) ∧ P none (σ.1, σ.2.1, σ.2.2.1, zk_up O0 a (cX ci (some f) bt mx my ln fw sh rest), σ.2.2.2.2) sz
  | _ => False
theorem spe_X2_init (E : zk_E) (a : Nat) (f : Nat) (mx : Int32) (my : Int32) (ln : Int32) (fw : Int32) (t : Value) (σ : zk_S) (sz : Nat) (P : zk_P zk_S) (PX : zk_X zk_S) : sp_X2_init E [.ref a, .ref f, t, .int mx, .int my, .int ln, .int fw] σ sz P PX = (E.1 + 28 ≤ a ∧ ∃ O0 ci bt sh rest, (ci = 1 ∨ ci = 6) ∧ t = va_rf bt ∧ σ.2.2.2.1 = zk_up O0 a (cX ci none none 0 0 0 0 sh rest) ∧ P none (σ.1, σ.2.1, σ.2.2.1, zk_up O0 a (cX ci (some f) bt mx my ln fw sh rest), σ.2.2.2.2) sz) := propext Iff.rfl
def C_X2_init (E : zk_E) : zk_Cl zk_S := zk_lka []
theorem r_X2_init (E : zk_E) (P : zk_P zk_S) (PX : zk_X zk_S) (K : Nat → zk_L → List Value → zk_W zk_S → Prop) : (∀ (n : Nat) (l1 l2 l3 l4 l5 l6 : Option Value) (y0 : Value) (r : List Value) (σ : zk_S) (sz k c : Nat), zk_run E (zk_VT E) M_X2_init (C_X2_init E) P PX K (n + 1) 0 [some y0, l1, l2, l3, l4, l5, l6] r (σ, sz, k, c) = (zk_isr y0 ∧ zk_run E (zk_VT E) M_X2_init (C_X2_init E) P PX K n 1 [some y0, l1, l2, l3, l4, l5, l6] (y0 :: r) (σ, sz, k, c))) ∧
  (∀ (n : Nat) (l0 l1 l2 l3 l4 l5 l6 : Option Value) (a : Nat)  (σ : zk_S) (sz k c : Nat), zk_run E (zk_VT E) M_X2_init (C_X2_init E) P PX K (n + 1) 1 [l0, l1, l2, l3, l4, l5, l6] (.ref a :: []) (σ, sz, k, c) = zk_run E (zk_VT E) M_X2_init (C_X2_init E) P PX K n 4 [l0, l1, l2, l3, l4, l5, l6] [] (σ, sz, k, c)) ∧
  (∀ (n : Nat) (l1 l2 l3 l4 l5 l6 : Option Value) (y0 : Value) (r : List Value) (σ : zk_S) (sz k c : Nat), zk_run E (zk_VT E) M_X2_init (C_X2_init E) P PX K (n + 1) 4 [some y0, l1, l2, l3, l4, l5, l6] r (σ, sz, k, c) = (zk_isr y0 ∧ zk_run E (zk_VT E) M_X2_init (C_X2_init E) P PX K n 5 [some y0, l1, l2, l3, l4, l5, l6] (y0 :: r) (σ, sz, k, c))) ∧
  (∀ (n : Nat) (l0 l2 l3 l4 l5 l6 : Option Value) (y1 : Value) (r : List Value) (σ : zk_S) (sz k c : Nat), zk_run E (zk_VT E) M_X2_init (C_X2_init E) P PX K (n + 1) 5 [l0, some y1, l2, l3, l4, l5, l6] r (σ, sz, k, c) = (zk_isr y1 ∧ zk_run E (zk_VT E) M_X2_init (C_X2_init E) P PX K n 6 [l0, some y1, l2, l3, l4, l5, l6] (y1 :: r) (σ, sz, k, c))) ∧
  (∀ (n : Nat) (l0 l1 l2 l3 l4 l5 l6 : Option Value) (a : Nat) (v : Value) (r : List Value) (σ : zk_S) (sz k c : Nat), zk_run E (zk_VT E) M_X2_init (C_X2_init E) P PX K (n + 1) 6 [l0, l1, l2, l3, l4, l5, l6] (v :: .ref a :: r) (σ, sz, k, c) = zk_put (zk_view E σ a) [1, 6] 0 2 v (zk_pfok E σ a 0 v ∧ zk_run E (zk_VT E) M_X2_init (C_X2_init E) P PX K n 9 [l0, l1, l2, l3, l4, l5, l6] r (zk_pf E σ a 0 v, sz, k, c))) ∧
  (∀ (n : Nat) (l1 l2 l3 l4 l5 l6 : Option Value) (y0 : Value) (r : List Value) (σ : zk_S) (sz k c : Nat), zk_run E (zk_VT E) M_X2_init (C_X2_init E) P PX K (n + 1) 9 [some y0, l1, l2, l3, l4, l5, l6] r (σ, sz, k, c) = (zk_isr y0 ∧ zk_run E (zk_VT E) M_X2_init (C_X2_init E) P PX K n 10 [some y0, l1, l2, l3, l4, l5, l6] (y0 :: r) (σ, sz, k, c))) ∧
  (∀ (n : Nat) (l0 l1 l3 l4 l5 l6 : Option Value) (y2 : Value) (r : List Value) (σ : zk_S) (sz k c : Nat), zk_run E (zk_VT E) M_X2_init (C_X2_init E) P PX K (n + 1) 10 [l0, l1, some y2, l3, l4, l5, l6] r (σ, sz, k, c) = (zk_isr y2 ∧ zk_run E (zk_VT E) M_X2_init (C_X2_init E) P PX K n 11 [l0, l1, some y2, l3, l4, l5, l6] (y2 :: r) (σ, sz, k, c))) ∧
  (∀ (n : Nat) (l0 l1 l2 l3 l4 l5 l6 : Option Value) (a : Nat) (v : Value) (r : List Value) (σ : zk_S) (sz k c : Nat), zk_run E (zk_VT E) M_X2_init (C_X2_init E) P PX K (n + 1) 11 [l0, l1, l2, l3, l4, l5, l6] (v :: .ref a :: r) (σ, sz, k, c) = zk_put (zk_view E σ a) [1, 6] 1 2 v (zk_pfok E σ a 1 v ∧ zk_run E (zk_VT E) M_X2_init (C_X2_init E) P PX K n 14 [l0, l1, l2, l3, l4, l5, l6] r (zk_pf E σ a 1 v, sz, k, c))) ∧
  (∀ (n : Nat) (l1 l2 l3 l4 l5 l6 : Option Value) (y0 : Value) (r : List Value) (σ : zk_S) (sz k c : Nat), zk_run E (zk_VT E) M_X2_init (C_X2_init E) P PX K (n + 1) 14 [some y0, l1, l2, l3, l4, l5, l6] r (σ, sz, k, c) = (zk_isr y0 ∧ zk_run E (zk_VT E) M_X2_init (C_X2_init E) P PX K n 15 [some y0, l1, l2, l3, l4, l5, l6] (y0 :: r) (σ, sz, k, c))) ∧
  (∀ (n : Nat) (l0 l1 l2 l4 l5 l6 : Option Value) (y3 : Int32) (r : List Value) (σ : zk_S) (sz k c : Nat), zk_run E (zk_VT E) M_X2_init (C_X2_init E) P PX K (n + 1) 15 [l0, l1, l2, some (.int y3), l4, l5, l6] r (σ, sz, k, c) = zk_run E (zk_VT E) M_X2_init (C_X2_init E) P PX K n 16 [l0, l1, l2, some (.int y3), l4, l5, l6] (.int y3 :: r) (σ, sz, k, c)) ∧
  (∀ (n : Nat) (l0 l1 l2 l3 l4 l5 l6 : Option Value) (a : Nat) (v : Value) (r : List Value) (σ : zk_S) (sz k c : Nat), zk_run E (zk_VT E) M_X2_init (C_X2_init E) P PX K (n + 1) 16 [l0, l1, l2, l3, l4, l5, l6] (v :: .ref a :: r) (σ, sz, k, c) = zk_put (zk_view E σ a) [1, 6] 2 0 v (zk_pfok E σ a 2 v ∧ zk_run E (zk_VT E) M_X2_init (C_X2_init E) P PX K n 19 [l0, l1, l2, l3, l4, l5, l6] r (zk_pf E σ a 2 v, sz, k, c))) ∧
  (∀ (n : Nat) (l1 l2 l3 l4 l5 l6 : Option Value) (y0 : Value) (r : List Value) (σ : zk_S) (sz k c : Nat), zk_run E (zk_VT E) M_X2_init (C_X2_init E) P PX K (n + 1) 19 [some y0, l1, l2, l3, l4, l5, l6] r (σ, sz, k, c) = (zk_isr y0 ∧ zk_run E (zk_VT E) M_X2_init (C_X2_init E) P PX K n 20 [some y0, l1, l2, l3, l4, l5, l6] (y0 :: r) (σ, sz, k, c))) ∧
  (∀ (n : Nat) (l0 l1 l2 l3 l5 l6 : Option Value) (y4 : Int32) (r : List Value) (σ : zk_S) (sz k c : Nat), zk_run E (zk_VT E) M_X2_init (C_X2_init E) P PX K (n + 1) 20 [l0, l1, l2, l3, some (.int y4), l5, l6] r (σ, sz, k, c) = zk_run E (zk_VT E) M_X2_init (C_X2_init E) P PX K n 22 [l0, l1, l2, l3, some (.int y4), l5, l6] (.int y4 :: r) (σ, sz, k, c)) ∧
  (∀ (n : Nat) (l0 l1 l2 l3 l4 l5 l6 : Option Value) (a : Nat) (v : Value) (r : List Value) (σ : zk_S) (sz k c : Nat), zk_run E (zk_VT E) M_X2_init (C_X2_init E) P PX K (n + 1) 22 [l0, l1, l2, l3, l4, l5, l6] (v :: .ref a :: r) (σ, sz, k, c) = zk_put (zk_view E σ a) [1, 6] 3 0 v (zk_pfok E σ a 3 v ∧ zk_run E (zk_VT E) M_X2_init (C_X2_init E) P PX K n 25 [l0, l1, l2, l3, l4, l5, l6] r (zk_pf E σ a 3 v, sz, k, c))) ∧
  (∀ (n : Nat) (l1 l2 l3 l4 l5 l6 : Option Value) (y0 : Value) (r : List Value) (σ : zk_S) (sz k c : Nat), zk_run E (zk_VT E) M_X2_init (C_X2_init E) P PX K (n + 1) 25 [some y0, l1, l2, l3, l4, l5, l6] r (σ, sz, k, c) = (zk_isr y0 ∧ zk_run E (zk_VT E) M_X2_init (C_X2_init E) P PX K n 26 [some y0, l1, l2, l3, l4, l5, l6] (y0 :: r) (σ, sz, k, c))) ∧
  (∀ (n : Nat) (l0 l1 l2 l3 l4 l6 : Option Value) (y5 : Int32) (r : List Value) (σ : zk_S) (sz k c : Nat), zk_run E (zk_VT E) M_X2_init (C_X2_init E) P PX K (n + 1) 26 [l0, l1, l2, l3, l4, some (.int y5), l6] r (σ, sz, k, c) = zk_run E (zk_VT E) M_X2_init (C_X2_init E) P PX K n 28 [l0, l1, l2, l3, l4, some (.int y5), l6] (.int y5 :: r) (σ, sz, k, c)) ∧
  (∀ (n : Nat) (l0 l1 l2 l3 l4 l5 l6 : Option Value) (a : Nat) (v : Value) (r : List Value) (σ : zk_S) (sz k c : Nat), zk_run E (zk_VT E) M_X2_init (C_X2_init E) P PX K (n + 1) 28 [l0, l1, l2, l3, l4, l5, l6] (v :: .ref a :: r) (σ, sz, k, c) = zk_put (zk_view E σ a) [1, 6] 4 0 v (zk_pfok E σ a 4 v ∧ zk_run E (zk_VT E) M_X2_init (C_X2_init E) P PX K n 31 [l0, l1, l2, l3, l4, l5, l6] r (zk_pf E σ a 4 v, sz, k, c))) ∧
  (∀ (n : Nat) (l1 l2 l3 l4 l5 l6 : Option Value) (y0 : Value) (r : List Value) (σ : zk_S) (sz k c : Nat), zk_run E (zk_VT E) M_X2_init (C_X2_init E) P PX K (n + 1) 31 [some y0, l1, l2, l3, l4, l5, l6] r (σ, sz, k, c) = (zk_isr y0 ∧ zk_run E (zk_VT E) M_X2_init (C_X2_init E) P PX K n 32 [some y0, l1, l2, l3, l4, l5, l6] (y0 :: r) (σ, sz, k, c))) ∧
  (∀ (n : Nat) (l0 l1 l2 l3 l4 l5 : Option Value) (y6 : Int32) (r : List Value) (σ : zk_S) (sz k c : Nat), zk_run E (zk_VT E) M_X2_init (C_X2_init E) P PX K (n + 1) 32 [l0, l1, l2, l3, l4, l5, some (.int y6)] r (σ, sz, k, c) = zk_run E (zk_VT E) M_X2_init (C_X2_init E) P PX K n 34 [l0, l1, l2, l3, l4, l5, some (.int y6)] (.int y6 :: r) (σ, sz, k, c)) ∧
  (∀ (n : Nat) (l0 l1 l2 l3 l4 l5 l6 : Option Value) (a : Nat) (v : Value) (r : List Value) (σ : zk_S) (sz k c : Nat), zk_run E (zk_VT E) M_X2_init (C_X2_init E) P PX K (n + 1) 34 [l0, l1, l2, l3, l4, l5, l6] (v :: .ref a :: r) (σ, sz, k, c) = zk_put (zk_view E σ a) [1, 6] 5 0 v (zk_pfok E σ a 5 v ∧ zk_run E (zk_VT E) M_X2_init (C_X2_init E) P PX K n 37 [l0, l1, l2, l3, l4, l5, l6] r (zk_pf E σ a 5 v, sz, k, c))) ∧
  (∀ (n : Nat) (l0 l1 l2 l3 l4 l5 l6 : Option Value)   (σ : zk_S) (sz k c : Nat), zk_run E (zk_VT E) M_X2_init (C_X2_init E) P PX K (n + 1) 37 [l0, l1, l2, l3, l4, l5, l6] [] (σ, sz, k, c) = (P none σ sz ∧ k ≤ 0 ∧ c ≤ 0)) ∧
  (∀ (n : Nat) (l0 l1 l2 l3 l4 l5 l6 : Option Value) (r : List Value) (w : zk_W zk_S), zk_go E (zk_VT E) M_X2_init (C_X2_init E) P PX K n 0 [l0, l1, l2, l3, l4, l5, l6] r w = zk_run E (zk_VT E) M_X2_init (C_X2_init E) P PX K (n + 1) 0 [l0, l1, l2, l3, l4, l5, l6] r w) := ⟨by intros; rfl, by intros; rfl, by intros; rfl, by intros; rfl, by intros; rfl, by intros; rfl, by intros; rfl, by intros; rfl, by intros; rfl, by intros; rfl, by intros; rfl, by intros; rfl, by intros; rfl, by intros; rfl, by intros; rfl, by intros; rfl, by intros; rfl, by intros; rfl, by intros; rfl, by intros; rfl, by intros; rfl, by intros; rfl⟩
theorem vc_X2_init (E : zk_E) : zk_VC E (zk_VT E) M_X2_init (C_X2_init E) 7 (sp_X2_init E) := by
  intro av σ sz P PX h
  obtain ⟨J, N, Q, O, U⟩ := σ
  unfold sp_X2_init at h
  split at h
  case h_2 => exact h.elim
  rename_i a f t mx my ln fw
  try dsimp only at h
  obtain ⟨ha, O0, ci, bt, sh, rest, hci, rfl, hEq, h⟩ := h
  have hEq : O = _ := hEq
  unfold cX at h hEq
  have lt7 : ∀ k, k < 7 → (k < rest.length + 1 + 1 + 1 + 1 + 1 + 1 + 1) = True := fun k hk => eq_true (by omega)
  cases bt with
  | none =>
    refine ⟨Nat.le_of_ble_eq_true rfl, fun G hG => ?_⟩
    change G 0 [some (.ref (a)), some (.ref f), some .null, some (.int mx), some (.int my), some (.int ln), some (.int fw)] [] ((J, N, Q, O, U), sz, 0, 0)
    subst hEq
    rcases hci with rfl | rfl
    · (refine hG 900 _ _ _ _ ?_; simp only [r_X2_init, zk_vd ha, zk_pfd _ _ ha, zk_pod _ _ ha, po_up2, zk_up_same, List.set_cons_zero, List.set_cons_succ, Nat.reduceLT, lt7, va_rf_n, va_rf_s])
      exact h
    · (refine hG 900 _ _ _ _ ?_; simp only [r_X2_init, zk_vd ha, zk_pfd _ _ ha, zk_pod _ _ ha, po_up2, zk_up_same, List.set_cons_zero, List.set_cons_succ, Nat.reduceLT, lt7, va_rf_n, va_rf_s])
      exact h
  | some c =>
    refine ⟨Nat.le_of_ble_eq_true rfl, fun G hG => ?_⟩
    change G 0 [some (.ref (a)), some (.ref f), some (.ref c), some (.int mx), some (.int my), some (.int ln), some (.int fw)] [] ((J, N, Q, O, U), sz, 0, 0)
    subst hEq
    rcases hci with rfl | rfl
    · (refine hG 900 _ _ _ _ ?_; simp only [r_X2_init, zk_vd ha, zk_pfd _ _ ha, zk_pod _ _ ha, po_up2, zk_up_same, List.set_cons_zero, List.set_cons_succ, Nat.reduceLT, lt7, va_rf_n, va_rf_s])
      exact h
    · (refine hG 900 _ _ _ _ ?_; simp only [r_X2_init, zk_vd ha, zk_pfd _ _ ha, zk_pod _ _ ha, po_up2, zk_up_same, List.set_cons_zero, List.set_cons_succ, Nat.reduceLT, lt7, va_rf_n, va_rf_s])
      exact h
theorem ct_X2_init {l : Launch} (hl : l.stackTraces = false) (E : zk_E) : zk_C l E (zk_VT E) yX2_init cX2_init 7 (none) rm_X2_init (sp_X2_init E) := by
  refine zk_meth (M := M_X2_init) (C := C_X2_init E) hl (by decide +kernel) rfl (fun _ _ => rfl) (zk_VT_ok E) MO_X2_init TO_X2_init THo_X2_init ?_ (vc_X2_init E)
  exact fun p e s m args below meth c X pc n mc ms sp2 h => absurd (zk_lka_mem h) List.not_mem_nil

def sp_X1_init (E : zk_E) : zk_Sp zk_S := fun av σ sz P PX => match av with
  | [.ref a, .ref f, t, .ref p] => E.1 + 28 ≤ a ∧ E.1 + 28 ≤ p ∧ ∃ O0 bt f0 u ln st w, t = va_rf bt ∧ σ.2.2.2.1 = zk_up O0 a (cX 1 none none 0 0 0 0 0 [.null]) ∧ O0 p = some (cP f0 u ln st w) ∧ p ≠ a ∧ P none (σ.1, σ.2.1, σ.2.2.1, zk_up O0 a (cX 1 (some f) bt (p_mx (some (cP f0 u ln st w))) (p_my (some (cP f0 u ln st w))) 0 (w * 2) 0 [.ref p]), σ.2.2.2.2) sz
  | _ => False
theorem spe_X1_init (E : zk_E) (a : Nat) (f : Nat) (p : Nat) (t : Value) (σ : zk_S) (sz : Nat) (P : zk_P zk_S) (PX : zk_X zk_S) : sp_X1_init E [.ref a, .ref f, t, .ref p] σ sz P PX = (E.1 + 28 ≤ a ∧ E.1 + 28 ≤ p ∧ ∃ O0 bt f0 u ln st w, t = va_rf bt ∧ σ.2.2.2.1 = zk_up O0 a (cX 1 none none 0 0 0 0 0 [.null]) ∧ O0 p = some (cP f0 u ln st w) ∧ p ≠ a ∧ P none (σ.1, σ.2.1, σ.2.2.1, zk_up O0 a (cX 1 (some f) bt (p_mx (some (cP f0 u ln st w))) (p_my (some (cP f0 u ln st w))) 0 (w * 2) 0 [.ref p]), σ.2.2.2.2) sz) := propext Iff.rfl
def C_X1_init (E : zk_E) : zk_Cl zk_S := zk_lka [(4, 1, 0, 0, zk_rv (zk_VT E) (fun ci => Nat.beq ci 3) (sp_X4_middleX E)), (8, 1, 0, 0, zk_rv (zk_VT E) (fun ci => Nat.beq ci 3) (sp_X4_middleY E)), (18, 7, 0, 0, zk_ri (sp_X2_init E))]
theorem r_X1_init (E : zk_E) (P : zk_P zk_S) (PX : zk_X zk_S) (K : Nat → zk_L → List Value → zk_W zk_S → Prop) : (∀ (n : Nat) (l1 l2 l3 : Option Value) (y0 : Value) (r : List Value) (σ : zk_S) (sz k c : Nat), zk_run E (zk_VT E) M_X1_init (C_X1_init E) P PX K (n + 1) 0 [some y0, l1, l2, l3] r (σ, sz, k, c) = (zk_isr y0 ∧ zk_run E (zk_VT E) M_X1_init (C_X1_init E) P PX K n 1 [some y0, l1, l2, l3] (y0 :: r) (σ, sz, k, c))) ∧
  (∀ (n : Nat) (l0 l2 l3 : Option Value) (y1 : Value) (r : List Value) (σ : zk_S) (sz k c : Nat), zk_run E (zk_VT E) M_X1_init (C_X1_init E) P PX K (n + 1) 1 [l0, some y1, l2, l3] r (σ, sz, k, c) = (zk_isr y1 ∧ zk_run E (zk_VT E) M_X1_init (C_X1_init E) P PX K n 2 [l0, some y1, l2, l3] (y1 :: r) (σ, sz, k, c))) ∧
  (∀ (n : Nat) (l0 l1 l3 : Option Value) (y2 : Value) (r : List Value) (σ : zk_S) (sz k c : Nat), zk_run E (zk_VT E) M_X1_init (C_X1_init E) P PX K (n + 1) 2 [l0, l1, some y2, l3] r (σ, sz, k, c) = (zk_isr y2 ∧ zk_run E (zk_VT E) M_X1_init (C_X1_init E) P PX K n 3 [l0, l1, some y2, l3] (y2 :: r) (σ, sz, k, c))) ∧
  (∀ (n : Nat) (l0 l1 l2 : Option Value) (y3 : Value) (r : List Value) (σ : zk_S) (sz k c : Nat), zk_run E (zk_VT E) M_X1_init (C_X1_init E) P PX K (n + 1) 3 [l0, l1, l2, some y3] r (σ, sz, k, c) = (zk_isr y3 ∧ zk_run E (zk_VT E) M_X1_init (C_X1_init E) P PX K n 4 [l0, l1, l2, some y3] (y3 :: r) (σ, sz, k, c))) ∧
  (∀ (n : Nat) (l0 l1 l2 l3 : Option Value) (v0 : Value) (v1 : Value) (v2 : Value) (v3 : Value)  (σ : zk_S) (sz k c : Nat), zk_run E (zk_VT E) M_X1_init (C_X1_init E) P PX K (n + 1) 4 [l0, l1, l2, l3] [v0, v1, v2, v3] (σ, sz, k, c) = (k + 0 ≤ 0 ∧ c + 0 ≤ 0 ∧ (zk_rv (zk_VT E) (fun ci => Nat.beq ci 3) (sp_X4_middleX E)) [v0] σ sz (fun v s2 z2 => zk_run E (zk_VT E) M_X1_init (C_X1_init E) P PX K n 7 [l0, l1, l2, l3] (zk_psh v [v1, v2, v3]) (s2, z2, k + 0, c + 0)) (fun X s2 z2 => PX X s2 z2))) ∧
  (∀ (n : Nat) (l0 l1 l2 : Option Value) (y3 : Value) (r : List Value) (σ : zk_S) (sz k c : Nat), zk_run E (zk_VT E) M_X1_init (C_X1_init E) P PX K (n + 1) 7 [l0, l1, l2, some y3] r (σ, sz, k, c) = (zk_isr y3 ∧ zk_run E (zk_VT E) M_X1_init (C_X1_init E) P PX K n 8 [l0, l1, l2, some y3] (y3 :: r) (σ, sz, k, c))) ∧
  (∀ (n : Nat) (l0 l1 l2 l3 : Option Value) (v0 : Value) (v1 : Value) (v2 : Value) (v3 : Value) (v4 : Value)  (σ : zk_S) (sz k c : Nat), zk_run E (zk_VT E) M_X1_init (C_X1_init E) P PX K (n + 1) 8 [l0, l1, l2, l3] [v0, v1, v2, v3, v4] (σ, sz, k, c) = (k + 0 ≤ 0 ∧ c + 0 ≤ 0 ∧ (zk_rv (zk_VT E) (fun ci => Nat.beq ci 3) (sp_X4_middleY E)) [v0] σ sz (fun v s2 z2 => zk_run E (zk_VT E) M_X1_init (C_X1_init E) P PX K n 11 [l0, l1, l2, l3] (zk_psh v [v1, v2, v3, v4]) (s2, z2, k + 0, c + 0)) (fun X s2 z2 => PX X s2 z2))) ∧
  (∀ (n : Nat) (l0 l1 l2 l3 : Option Value)  (r : List Value) (σ : zk_S) (sz k c : Nat), zk_run E (zk_VT E) M_X1_init (C_X1_init E) P PX K (n + 1) 11 [l0, l1, l2, l3] r (σ, sz, k, c) = zk_run E (zk_VT E) M_X1_init (C_X1_init E) P PX K n 12 [l0, l1, l2, l3] (.int (0) :: r) (σ, sz, k, c)) ∧
  (∀ (n : Nat) (l0 l1 l2 : Option Value) (y3 : Value) (r : List Value) (σ : zk_S) (sz k c : Nat), zk_run E (zk_VT E) M_X1_init (C_X1_init E) P PX K (n + 1) 12 [l0, l1, l2, some y3] r (σ, sz, k, c) = (zk_isr y3 ∧ zk_run E (zk_VT E) M_X1_init (C_X1_init E) P PX K n 13 [l0, l1, l2, some y3] (y3 :: r) (σ, sz, k, c))) ∧
  (∀ (n : Nat) (l0 l1 l2 l3 : Option Value) (a : Nat) (r : List Value) (σ : zk_S) (sz k c : Nat), zk_run E (zk_VT E) M_X1_init (C_X1_init E) P PX K (n + 1) 13 [l0, l1, l2, l3] (.ref a :: r) (σ, sz, k, c) = zk_fld (zk_view E σ a) [3] 4 (fun v => zk_run E (zk_VT E) M_X1_init (C_X1_init E) P PX K n 16 [l0, l1, l2, l3] (v :: r) (σ, sz, k, c))) ∧
  (∀ (n : Nat) (l0 l1 l2 l3 : Option Value)  (r : List Value) (σ : zk_S) (sz k c : Nat), zk_run E (zk_VT E) M_X1_init (C_X1_init E) P PX K (n + 1) 16 [l0, l1, l2, l3] r (σ, sz, k, c) = zk_run E (zk_VT E) M_X1_init (C_X1_init E) P PX K n 17 [l0, l1, l2, l3] (.int (2) :: r) (σ, sz, k, c)) ∧
  (∀ (n : Nat) (l0 l1 l2 l3 : Option Value) (x y : Int32) (r : List Value) (σ : zk_S) (sz k c : Nat), zk_run E (zk_VT E) M_X1_init (C_X1_init E) P PX K (n + 1) 17 [l0, l1, l2, l3] (.int y :: .int x :: r) (σ, sz, k, c) = zk_run E (zk_VT E) M_X1_init (C_X1_init E) P PX K n 18 [l0, l1, l2, l3] (.int (x * y) :: r) (σ, sz, k, c)) ∧
  (∀ (n : Nat) (l0 l1 l2 l3 : Option Value) (v0 : Value) (v1 : Value) (v2 : Value) (v3 : Value) (v4 : Value) (v5 : Value) (v6 : Value)  (σ : zk_S) (sz k c : Nat), zk_run E (zk_VT E) M_X1_init (C_X1_init E) P PX K (n + 1) 18 [l0, l1, l2, l3] [v0, v1, v2, v3, v4, v5, v6] (σ, sz, k, c) = (k + 0 ≤ 0 ∧ c + 0 ≤ 0 ∧ (zk_ri (sp_X2_init E)) [v6, v5, v4, v3, v2, v1, v0] σ sz (fun v s2 z2 => zk_run E (zk_VT E) M_X1_init (C_X1_init E) P PX K n 21 [l0, l1, l2, l3] (zk_psh v []) (s2, z2, k + 0, c + 0)) (fun X s2 z2 => PX X s2 z2))) ∧
  (∀ (n : Nat) (l1 l2 l3 : Option Value) (y0 : Value) (r : List Value) (σ : zk_S) (sz k c : Nat), zk_run E (zk_VT E) M_X1_init (C_X1_init E) P PX K (n + 1) 21 [some y0, l1, l2, l3] r (σ, sz, k, c) = (zk_isr y0 ∧ zk_run E (zk_VT E) M_X1_init (C_X1_init E) P PX K n 22 [some y0, l1, l2, l3] (y0 :: r) (σ, sz, k, c))) ∧
  (∀ (n : Nat) (l0 l1 l2 : Option Value) (y3 : Value) (r : List Value) (σ : zk_S) (sz k c : Nat), zk_run E (zk_VT E) M_X1_init (C_X1_init E) P PX K (n + 1) 22 [l0, l1, l2, some y3] r (σ, sz, k, c) = (zk_isr y3 ∧ zk_run E (zk_VT E) M_X1_init (C_X1_init E) P PX K n 23 [l0, l1, l2, some y3] (y3 :: r) (σ, sz, k, c))) ∧
  (∀ (n : Nat) (l0 l1 l2 l3 : Option Value) (a : Nat) (v : Value) (r : List Value) (σ : zk_S) (sz k c : Nat), zk_run E (zk_VT E) M_X1_init (C_X1_init E) P PX K (n + 1) 23 [l0, l1, l2, l3] (v :: .ref a :: r) (σ, sz, k, c) = zk_put (zk_view E σ a) [1] 7 2 v (zk_pfok E σ a 7 v ∧ zk_run E (zk_VT E) M_X1_init (C_X1_init E) P PX K n 26 [l0, l1, l2, l3] r (zk_pf E σ a 7 v, sz, k, c))) ∧
  (∀ (n : Nat) (l0 l1 l2 l3 : Option Value)   (σ : zk_S) (sz k c : Nat), zk_run E (zk_VT E) M_X1_init (C_X1_init E) P PX K (n + 1) 26 [l0, l1, l2, l3] [] (σ, sz, k, c) = (P none σ sz ∧ k ≤ 0 ∧ c ≤ 0)) ∧
  (∀ (n : Nat) (l0 l1 l2 l3 : Option Value) (r : List Value) (w : zk_W zk_S), zk_go E (zk_VT E) M_X1_init (C_X1_init E) P PX K n 0 [l0, l1, l2, l3] r w = zk_run E (zk_VT E) M_X1_init (C_X1_init E) P PX K (n + 1) 0 [l0, l1, l2, l3] r w) := ⟨by intros; rfl, by intros; rfl, by intros; rfl, by intros; rfl, by intros; rfl, by intros; rfl, by intros; rfl, by intros; rfl, by intros; rfl, by intros; rfl, by intros; rfl, by intros; rfl, by intros; rfl, by intros; rfl, by intros; rfl, by intros; rfl, by intros; rfl, by intros; rfl⟩
theorem vc_X1_init (E : zk_E) : zk_VC E (zk_VT E) M_X1_init (C_X1_init E) 4 (sp_X1_init E) := by
  intro av σ sz P PX h
  obtain ⟨J, N, Q, O, U⟩ := σ
  unfold sp_X1_init at h
  split at h
  case h_2 => exact h.elim
  rename_i a f t p
  try dsimp only at h
  obtain ⟨ha, hp, O0, bt, f0, u, ln, st, w, rfl, hEq, hO, hne, h⟩ := h
  have hEq : O = _ := hEq
  have hOp : zk_up O0 a (cX 1 none none 0 0 0 0 0 [.null]) p = some (cP f0 u ln st w) := by rw [zk_up_ne _ _ hne, hO]
  have hOp2 : ∀ e, zk_up O0 a e p = some (cP f0 u ln st w) := fun e => by rw [zk_up_ne _ _ hne, hO]
  have g4 : ∀ (F : Value → Prop), zk_fld (some (cP f0 u ln st w)) [3] 4 F = F (.int w) := fun F => by simp [zk_fld_o, cP, zk_nth]
  have hip : zk_is (some (cP f0 u ln st w)) (fun ci => Nat.beq ci 3) = True := eq_true rfl
  have hP : isP (some (cP f0 u ln st w)) := ⟨_, _, _, _, _, rfl⟩
  cases bt with
  | none =>
    refine ⟨Nat.le_of_ble_eq_true rfl, fun G hG => ?_⟩
    change G 0 [some (.ref (a)), some (.ref f), some .null, some (.ref p)] [] ((J, N, Q, O, U), sz, 0, 0)
    subst hEq
    (refine hG 900 _ _ _ _ ?_; simp only [r_X1_init, zk_vd ha, zk_vd hp, hip, spe_X4_middleX, spe_X4_middleY, hp, hOp2, hP, g4, spe_X2_init, ha])
    refine ⟨O0, 1, none, 0, [.null], Or.inl rfl, rfl, rfl, ?_⟩
    unfold cX at h ⊢
    simp only [r_X1_init, zk_vd ha, zk_pfd _ _ ha, zk_pod _ _ ha, po_up2, zk_up_same, List.set_cons_zero, List.set_cons_succ, Nat.reduceLT, va_rf_n, va_rf_s]
    exact h
  | some c =>
    refine ⟨Nat.le_of_ble_eq_true rfl, fun G hG => ?_⟩
    change G 0 [some (.ref (a)), some (.ref f), some (.ref c), some (.ref p)] [] ((J, N, Q, O, U), sz, 0, 0)
    subst hEq
    (refine hG 900 _ _ _ _ ?_; simp only [r_X1_init, zk_vd ha, zk_vd hp, hip, spe_X4_middleX, spe_X4_middleY, hp, hOp2, hP, g4, spe_X2_init, ha])
    refine ⟨O0, 1, some c, 0, [.null], Or.inl rfl, rfl, rfl, ?_⟩
    unfold cX at h ⊢
    simp only [r_X1_init, zk_vd ha, zk_pfd _ _ ha, zk_pod _ _ ha, po_up2, zk_up_same, List.set_cons_zero, List.set_cons_succ, Nat.reduceLT, va_rf_n, va_rf_s]
    exact h
theorem ct_X1_init {l : Launch} (hl : l.stackTraces = false) (E : zk_E) : zk_C l E (zk_VT E) yX1_init cX1_init 4 (none) rm_X1_init (sp_X1_init E) := by
  refine zk_meth (M := M_X1_init) (C := C_X1_init E) hl (by decide +kernel) rfl (fun _ _ => rfl) (zk_VT_ok E) MO_X1_init TO_X1_init THo_X1_init ?_ (vc_X1_init E)
  exact fun p e s m args below meth c X pc n mc ms sp2 h => by
    have h2 := zk_lka_mem h
    simp only [List.mem_cons, List.not_mem_nil, or_false, Prod.mk.injEq] at h2
    rcases h2 with ⟨rfl, rfl, rfl, rfl, rfl⟩ | ⟨rfl, rfl, rfl, rfl, rfl⟩ | ⟨rfl, rfl, rfl, rfl, rfl⟩
    · exact zk_coV (idx := 3) X (ct_X4_middleX hl E) (List.forall_mem_cons.mpr ⟨zk_wi 835 (by decide +kernel) rfl, List.forall_mem_cons.mpr ⟨zk_wi 836 (by decide +kernel) rfl, List.forall_mem_cons.mpr ⟨zk_wi 837 (by decide +kernel) rfl, List.forall_mem_cons.mpr ⟨zk_wi 15 (by decide +kernel) rfl, List.forall_mem_cons.mpr ⟨zk_wi 838 (by decide +kernel) rfl, fun _ h => absurd h List.not_mem_nil⟩⟩⟩⟩⟩) (fun ci h => by
      have h := Nat.eq_of_beq_eq_true h
      subst h
      exact ⟨_, _, rfl⟩) (by decide +kernel) ⟨by decide, by decide, by decide +kernel⟩ ⟨by decide, by decide⟩
    · exact zk_coV (idx := 9) X (ct_X4_middleY hl E) (List.forall_mem_cons.mpr ⟨zk_wi 839 (by decide +kernel) rfl, List.forall_mem_cons.mpr ⟨zk_wi 840 (by decide +kernel) rfl, List.forall_mem_cons.mpr ⟨zk_wi 841 (by decide +kernel) rfl, List.forall_mem_cons.mpr ⟨zk_wi 15 (by decide +kernel) rfl, List.forall_mem_cons.mpr ⟨zk_wi 842 (by decide +kernel) rfl, fun _ h => absurd h List.not_mem_nil⟩⟩⟩⟩⟩) (fun ci h => by
      have h := Nat.eq_of_beq_eq_true h
      subst h
      exact ⟨_, _, rfl⟩) (by decide +kernel) ⟨by decide, by decide, by decide +kernel⟩ ⟨by decide, by decide⟩
    · exact zk_coI (idx := 16) X (ct_X2_init hl E) (List.forall_mem_cons.mpr ⟨zk_wi 843 (by decide +kernel) rfl, List.forall_mem_cons.mpr ⟨zk_wi 844 (by decide +kernel) rfl, List.forall_mem_cons.mpr ⟨zk_wi 16 (by decide +kernel) rfl, List.forall_mem_cons.mpr ⟨zk_wi 845 (by decide +kernel) rfl, fun _ h => absurd h List.not_mem_nil⟩⟩⟩⟩) rfl (by decide +kernel) ⟨by decide, by decide, by decide +kernel⟩ ⟨by decide, by decide⟩
def sp_X7_init (E : zk_E) : zk_Sp zk_S := fun av σ sz P PX => match av with
  | [.ref a, .ref f, .ref t, .int x, .int y] => E.1 + 28 ≤ a ∧ ∃ O0, σ.2.2.2.1 = zk_up O0 a (cX 6 none none 0 0 0 0 0 []) ∧ P none (σ.1, σ.2.1, σ.2.2.1, zk_up O0 a (cX 6 (some f) (some t) (2 * x) (2 * y) 20 3 0 []), σ.2.2.2.2) sz
  | _ => False
theorem spe_X7_init (E : zk_E) (a : Nat) (f : Nat) (t : Nat) (x : Int32) (y : Int32) (σ : zk_S) (sz : Nat) (P : zk_P zk_S) (PX : zk_X zk_S) : sp_X7_init E [.ref a, .ref f, .ref t, .int x, .int y] σ sz P PX = (E.1 + 28 ≤ a ∧ ∃ O0, σ.2.2.2.1 = zk_up O0 a (cX 6 none none 0 0 0 0 0 []) ∧ P none (σ.1, σ.2.1, σ.2.2.1, zk_up O0 a (cX 6 (some f) (some t) (2 * x) (2 * y) 20 3 0 []), σ.2.2.2.2) sz) := propext Iff.rfl
def C_X7_init (E : zk_E) : zk_Cl zk_S := zk_lka [(13, 7, 0, 0, zk_ri (sp_X2_init E))]
theorem r_X7_init (E : zk_E) (P : zk_P zk_S) (PX : zk_X zk_S) (K : Nat → zk_L → List Value → zk_W zk_S → Prop) : (∀ (n : Nat) (l1 l2 l3 l4 : Option Value) (y0 : Value) (r : List Value) (σ : zk_S) (sz k c : Nat), zk_run E (zk_VT E) M_X7_init (C_X7_init E) P PX K (n + 1) 0 [some y0, l1, l2, l3, l4] r (σ, sz, k, c) = (zk_isr y0 ∧ zk_run E (zk_VT E) M_X7_init (C_X7_init E) P PX K n 1 [some y0, l1, l2, l3, l4] (y0 :: r) (σ, sz, k, c))) ∧
  (∀ (n : Nat) (l0 l2 l3 l4 : Option Value) (y1 : Value) (r : List Value) (σ : zk_S) (sz k c : Nat), zk_run E (zk_VT E) M_X7_init (C_X7_init E) P PX K (n + 1) 1 [l0, some y1, l2, l3, l4] r (σ, sz, k, c) = (zk_isr y1 ∧ zk_run E (zk_VT E) M_X7_init (C_X7_init E) P PX K n 2 [l0, some y1, l2, l3, l4] (y1 :: r) (σ, sz, k, c))) ∧
  (∀ (n : Nat) (l0 l1 l3 l4 : Option Value) (y2 : Value) (r : List Value) (σ : zk_S) (sz k c : Nat), zk_run E (zk_VT E) M_X7_init (C_X7_init E) P PX K (n + 1) 2 [l0, l1, some y2, l3, l4] r (σ, sz, k, c) = (zk_isr y2 ∧ zk_run E (zk_VT E) M_X7_init (C_X7_init E) P PX K n 3 [l0, l1, some y2, l3, l4] (y2 :: r) (σ, sz, k, c))) ∧
  (∀ (n : Nat) (l0 l1 l2 l3 l4 : Option Value)  (r : List Value) (σ : zk_S) (sz k c : Nat), zk_run E (zk_VT E) M_X7_init (C_X7_init E) P PX K (n + 1) 3 [l0, l1, l2, l3, l4] r (σ, sz, k, c) = zk_run E (zk_VT E) M_X7_init (C_X7_init E) P PX K n 4 [l0, l1, l2, l3, l4] (.int (2) :: r) (σ, sz, k, c)) ∧
  (∀ (n : Nat) (l0 l1 l2 l4 : Option Value) (y3 : Int32) (r : List Value) (σ : zk_S) (sz k c : Nat), zk_run E (zk_VT E) M_X7_init (C_X7_init E) P PX K (n + 1) 4 [l0, l1, l2, some (.int y3), l4] r (σ, sz, k, c) = zk_run E (zk_VT E) M_X7_init (C_X7_init E) P PX K n 5 [l0, l1, l2, some (.int y3), l4] (.int y3 :: r) (σ, sz, k, c)) ∧
  (∀ (n : Nat) (l0 l1 l2 l3 l4 : Option Value) (x y : Int32) (r : List Value) (σ : zk_S) (sz k c : Nat), zk_run E (zk_VT E) M_X7_init (C_X7_init E) P PX K (n + 1) 5 [l0, l1, l2, l3, l4] (.int y :: .int x :: r) (σ, sz, k, c) = zk_run E (zk_VT E) M_X7_init (C_X7_init E) P PX K n 6 [l0, l1, l2, l3, l4] (.int (x * y) :: r) (σ, sz, k, c)) ∧
  (∀ (n : Nat) (l0 l1 l2 l3 l4 : Option Value)  (r : List Value) (σ : zk_S) (sz k c : Nat), zk_run E (zk_VT E) M_X7_init (C_X7_init E) P PX K (n + 1) 6 [l0, l1, l2, l3, l4] r (σ, sz, k, c) = zk_run E (zk_VT E) M_X7_init (C_X7_init E) P PX K n 7 [l0, l1, l2, l3, l4] (.int (2) :: r) (σ, sz, k, c)) ∧
  (∀ (n : Nat) (l0 l1 l2 l3 : Option Value) (y4 : Int32) (r : List Value) (σ : zk_S) (sz k c : Nat), zk_run E (zk_VT E) M_X7_init (C_X7_init E) P PX K (n + 1) 7 [l0, l1, l2, l3, some (.int y4)] r (σ, sz, k, c) = zk_run E (zk_VT E) M_X7_init (C_X7_init E) P PX K n 9 [l0, l1, l2, l3, some (.int y4)] (.int y4 :: r) (σ, sz, k, c)) ∧
  (∀ (n : Nat) (l0 l1 l2 l3 l4 : Option Value) (x y : Int32) (r : List Value) (σ : zk_S) (sz k c : Nat), zk_run E (zk_VT E) M_X7_init (C_X7_init E) P PX K (n + 1) 9 [l0, l1, l2, l3, l4] (.int y :: .int x :: r) (σ, sz, k, c) = zk_run E (zk_VT E) M_X7_init (C_X7_init E) P PX K n 10 [l0, l1, l2, l3, l4] (.int (x * y) :: r) (σ, sz, k, c)) ∧
  (∀ (n : Nat) (l0 l1 l2 l3 l4 : Option Value)  (r : List Value) (σ : zk_S) (sz k c : Nat), zk_run E (zk_VT E) M_X7_init (C_X7_init E) P PX K (n + 1) 10 [l0, l1, l2, l3, l4] r (σ, sz, k, c) = zk_run E (zk_VT E) M_X7_init (C_X7_init E) P PX K n 12 [l0, l1, l2, l3, l4] (.int (20) :: r) (σ, sz, k, c)) ∧
  (∀ (n : Nat) (l0 l1 l2 l3 l4 : Option Value)  (r : List Value) (σ : zk_S) (sz k c : Nat), zk_run E (zk_VT E) M_X7_init (C_X7_init E) P PX K (n + 1) 12 [l0, l1, l2, l3, l4] r (σ, sz, k, c) = zk_run E (zk_VT E) M_X7_init (C_X7_init E) P PX K n 13 [l0, l1, l2, l3, l4] (.int (3) :: r) (σ, sz, k, c)) ∧
  (∀ (n : Nat) (l0 l1 l2 l3 l4 : Option Value) (v0 : Value) (v1 : Value) (v2 : Value) (v3 : Value) (v4 : Value) (v5 : Value) (v6 : Value)  (σ : zk_S) (sz k c : Nat), zk_run E (zk_VT E) M_X7_init (C_X7_init E) P PX K (n + 1) 13 [l0, l1, l2, l3, l4] [v0, v1, v2, v3, v4, v5, v6] (σ, sz, k, c) = (k + 0 ≤ 0 ∧ c + 0 ≤ 0 ∧ (zk_ri (sp_X2_init E)) [v6, v5, v4, v3, v2, v1, v0] σ sz (fun v s2 z2 => zk_run E (zk_VT E) M_X7_init (C_X7_init E) P PX K n 16 [l0, l1, l2, l3, l4] (zk_psh v []) (s2, z2, k + 0, c + 0)) (fun X s2 z2 => PX X s2 z2))) ∧
  (∀ (n : Nat) (l0 l1 l2 l3 l4 : Option Value)   (σ : zk_S) (sz k c : Nat), zk_run E (zk_VT E) M_X7_init (C_X7_init E) P PX K (n + 1) 16 [l0, l1, l2, l3, l4] [] (σ, sz, k, c) = (P none σ sz ∧ k ≤ 0 ∧ c ≤ 0)) ∧
  (∀ (n : Nat) (l0 l1 l2 l3 l4 : Option Value) (r : List Value) (w : zk_W zk_S), zk_go E (zk_VT E) M_X7_init (C_X7_init E) P PX K n 0 [l0, l1, l2, l3, l4] r w = zk_run E (zk_VT E) M_X7_init (C_X7_init E) P PX K (n + 1) 0 [l0, l1, l2, l3, l4] r w) := ⟨by intros; rfl, by intros; rfl, by intros; rfl, by intros; rfl, by intros; rfl, by intros; rfl, by intros; rfl, by intros; rfl, by intros; rfl, by intros; rfl, by intros; rfl, by intros; rfl, by intros; rfl, by intros; rfl⟩
theorem vc_X7_init (E : zk_E) : zk_VC E (zk_VT E) M_X7_init (C_X7_init E) 5 (sp_X7_init E) := by
  intro av σ sz P PX h
  obtain ⟨J, N, Q, O, U⟩ := σ
  unfold sp_X7_init at h
  split at h
  case h_2 => exact h.elim
  rename_i a f t x y
  refine ⟨Nat.le_of_ble_eq_true rfl, fun G hG => ?_⟩
  change G 0 [some (.ref (a)), some (.ref f), some (.ref t), some (.int x), some (.int y)] [] ((J, N, Q, O, U), sz, 0, 0)
  try dsimp only at h
  obtain ⟨ha, O0, rfl, h⟩ := h
  (refine hG 900 _ _ _ _ ?_; simp only [r_X7_init, spe_X2_init, ha])
  exact ⟨O0, 6, some t, 0, [], Or.inr rfl, rfl, rfl, h⟩
theorem ct_X7_init {l : Launch} (hl : l.stackTraces = false) (E : zk_E) : zk_C l E (zk_VT E) yX7_init cX7_init 5 (none) rm_X7_init (sp_X7_init E) := by
  refine zk_meth (M := M_X7_init) (C := C_X7_init E) hl (by decide +kernel) rfl (fun _ _ => rfl) (zk_VT_ok E) MO_X7_init TO_X7_init THo_X7_init ?_ (vc_X7_init E)
  exact fun p e s m args below meth c X pc n mc ms sp2 h => by
    have h2 := zk_lka_mem h
    simp only [List.mem_cons, List.not_mem_nil, or_false, Prod.mk.injEq] at h2
    rcases h2 with ⟨rfl, rfl, rfl, rfl, rfl⟩
    exact zk_coI (idx := 3) X (ct_X2_init hl E) (List.forall_mem_cons.mpr ⟨zk_wi 908 (by decide +kernel) rfl, List.forall_mem_cons.mpr ⟨zk_wi 844 (by decide +kernel) rfl, List.forall_mem_cons.mpr ⟨zk_wi 16 (by decide +kernel) rfl, List.forall_mem_cons.mpr ⟨zk_wi 845 (by decide +kernel) rfl, fun _ h => absurd h List.not_mem_nil⟩⟩⟩⟩) rfl (by decide +kernel) ⟨by decide, by decide, by decide +kernel⟩ ⟨by decide, by decide⟩


