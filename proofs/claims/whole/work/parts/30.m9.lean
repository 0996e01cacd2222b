/-! the reference: ways, leavings, depths as told -/
theorem SV.vw {J N : Nat → Nat → Int32} (hmi : MI J N) (h : SV J N) : VW J N := fun e he => by
  have h1 := h.2.1 e he
  have h2 : g_v N e = LL J N e := by unfold g_v; rw [h1, n_cl (by have := LL_le_INF (J := J) (N := N) e; unfold INF at this; omega)]
  rw [h2]
  exact ⟨⟨h1, LL_le_INF e⟩, m_gx hmi he⟩
theorem SV.least {J N : Nat → Nat → Int32} (h : SV J N) (r b : Int32) (x y : Nat) : g_least J N (g_v N) r b x y = g_least J N (LL J N) r b x y := by
  have hq : ∀ f ∈ m_act J N, g_v N f = LL J N f := fun f hf => by
    unfold g_v; rw [h.2.1 f hf, n_cl (by have := LL_le_INF (J := J) (N := N) f; unfold INF at this; omega)]
  exact Nat.le_antisymm (g_least_mono fun f hf => Nat.le_of_eq (hq f hf)) (g_least_mono fun f hf => Nat.le_of_eq (hq f hf).symm)
theorem g_least_INF (J N : Nat → Nat → Int32) (v : Nat → Nat) (r b : Int32) (x y : Nat) : g_least J N v r b x y ≤ INF := fmin_le_init _ _ _ _
theorem g_far_INF (J N : Nat → Nat → Int32) (j : Nat) : ∀ c, g_far J N j c ≤ INF
  | 0 => Nat.zero_le _
  | c + 1 => by
    have h1 := g_far_INF J N j c
    have h2 := g_least_INF J N (LL J N) (nI j) (-1) (2 * ((N 24 j).toNatClampNeg + c % 2 * (N 26 j).toNatClampNeg)) (2 * ((N 25 j).toNatClampNeg + c / 2 * (N 27 j).toNatClampNeg))
    unfold g_far g_cor
    omega
theorem g_cxy {J N : Nat → Nat → Int32} {j c : Nat} (hm : MI J N) (hj : j < m_nr J) (hc : c < 4) :
    (2 * (N 24 j + nI (c % 2) * N 26 j) = nI (2 * ((N 24 j).toNatClampNeg + c % 2 * (N 26 j).toNatClampNeg)) ∧ 2 * ((N 24 j).toNatClampNeg + c % 2 * (N 26 j).toNatClampNeg) ≤ 400) ∧
    (2 * (N 25 j + nI (c / 2) * N 27 j) = nI (2 * ((N 25 j).toNatClampNeg + c / 2 * (N 27 j).toNatClampNeg)) ∧ 2 * ((N 25 j).toNatClampNeg + c / 2 * (N 27 j).toNatClampNeg) ≤ 400) := by
  obtain ⟨-, h1, h2, h3, h4, -⟩ := hm.2.1 j hj
  have a1 := h1.eq (by decide)
  have a2 := h2.eq (by decide)
  have a3 := h3.eq (by decide)
  have a4 := h4.eq (by decide)
  have m1 : c % 2 * (N 26 j).toNatClampNeg ≤ 1 * 30 := Nat.mul_le_mul (by omega) a3.2.2
  have m2 : c / 2 * (N 27 j).toNatClampNeg ≤ 1 * 30 := Nat.mul_le_mul (by omega) a4.2.2
  refine ⟨⟨?_, by omega⟩, ?_, by omega⟩
  · rw [← n_mul, ← n_add, ← n_mul, ← a1.1, ← a3.1]; rfl
  · rw [← n_mul, ← n_add, ← n_mul, ← a2.1, ← a4.1]; rfl
def sp_X11_farNow (E : zk_E) : zk_Sp zk_S := fun av σ sz P PX => match av with
  | [.ref a, .int r] => a = zk_ad E 22 ∧ MI σ.1 σ.2.1 ∧ SV σ.1 σ.2.1 ∧ (∃ j, j < m_nr σ.1 ∧ r = nI j) ∧ P (some (.int (a_far σ.1 σ.2.1 r.toNatClampNeg))) σ sz
  | _ => False
theorem spe_X11_farNow (E : zk_E) (a : Nat) (r : Int32) (σ : zk_S) (sz : Nat) (P : zk_P zk_S) (PX : zk_X zk_S) : sp_X11_farNow E [.ref a, .int r] σ sz P PX = (a = zk_ad E 22 ∧ MI σ.1 σ.2.1 ∧ SV σ.1 σ.2.1 ∧ (∃ j, j < m_nr σ.1 ∧ r = nI j) ∧ P (some (.int (a_far σ.1 σ.2.1 r.toNatClampNeg))) σ sz) := propext Iff.rfl
def C_X11_farNow (E : zk_E) : zk_Cl zk_S := zk_lka [(51, 5, 0, 0, zk_rv (zk_VT E) (fun ci => Nat.beq ci 10) (sp_X11_least E)), (66, 2, 0, 0, zk_rv (zk_VT E) (fun ci => Nat.beq ci 10) (sp_X11_isLostNow E))]
theorem r_X11_farNow (E : zk_E) (P : zk_P zk_S) (PX : zk_X zk_S) (K : Nat → zk_L → List Value → zk_W zk_S → Prop) : (∀ (n : Nat) (l0 l1 l2 l3 : Option Value)  (r : List Value) (σ : zk_S) (sz k c : Nat), zk_run E (zk_VT E) M_X11_farNow (C_X11_farNow E) P PX K (n + 1) 0 [l0, l1, l2, l3] r (σ, sz, k, c) = zk_run E (zk_VT E) M_X11_farNow (C_X11_farNow E) P PX K n 1 [l0, l1, l2, l3] (.int (0) :: r) (σ, sz, k, c)) ∧
  (∀ (n : Nat) (l0 l1 l2 l3 : Option Value) (x : Int32) (r : List Value) (σ : zk_S) (sz k c : Nat), zk_run E (zk_VT E) M_X11_farNow (C_X11_farNow E) P PX K (n + 1) 1 [l0, l1, l2, l3] (.int x :: r) (σ, sz, k, c) = zk_run E (zk_VT E) M_X11_farNow (C_X11_farNow E) P PX K n 2 [l0, zk_kl l1, some (.int x), l3] r (σ, sz, k, c)) ∧
  (∀ (n : Nat) (l0 l1 l2 l3 : Option Value)  (r : List Value) (σ : zk_S) (sz k c : Nat), zk_run E (zk_VT E) M_X11_farNow (C_X11_farNow E) P PX K (n + 1) 2 [l0, l1, l2, l3] r (σ, sz, k, c) = zk_run E (zk_VT E) M_X11_farNow (C_X11_farNow E) P PX K n 3 [l0, l1, l2, l3] (.int (0) :: r) (σ, sz, k, c)) ∧
  (∀ (n : Nat) (l0 l1 l2 l3 : Option Value) (x : Int32) (r : List Value) (σ : zk_S) (sz k c : Nat), zk_run E (zk_VT E) M_X11_farNow (C_X11_farNow E) P PX K (n + 1) 3 [l0, l1, l2, l3] (.int x :: r) (σ, sz, k, c) = zk_run E (zk_VT E) M_X11_farNow (C_X11_farNow E) P PX K n 4 [l0, l1, zk_kl l2, some (.int x)] r (σ, sz, k, c)) ∧
  (∀ (n : Nat) (l0 l1 l2 l3 : Option Value)  (r : List Value) (σ : zk_S) (sz k c : Nat), zk_run E (zk_VT E) M_X11_farNow (C_X11_farNow E) P PX K (n + 1) 4 [l0, l1, l2, l3] r (σ, sz, k, c) = K 4 [l0, l1, l2, l3] r (σ, sz, k, c)) ∧
  (∀ (n : Nat) (l0 l1 l2 l3 : Option Value)  (r : List Value) (σ : zk_S) (sz k c : Nat), zk_run E (zk_VT E) M_X11_farNow (C_X11_farNow E) P PX K (n + 1) 5 [l0, l1, l2, l3] r (σ, sz, k, c) = zk_run E (zk_VT E) M_X11_farNow (C_X11_farNow E) P PX K n 6 [l0, l1, l2, l3] (.int (4) :: r) (σ, sz, k, c)) ∧
  (∀ (n : Nat) (l0 l1 l2 l3 : Option Value) (x y : Int32) (r : List Value) (σ : zk_S) (sz k c : Nat), zk_run E (zk_VT E) M_X11_farNow (C_X11_farNow E) P PX K (n + 1) 6 [l0, l1, l2, l3] (.int y :: .int x :: r) (σ, sz, k, c) = ((y ≤ x → zk_run E (zk_VT E) M_X11_farNow (C_X11_farNow E) P PX K n 64 [l0, l1, l2, l3] r (σ, sz, k, c)) ∧ (¬ (y ≤ x) → zk_run E (zk_VT E) M_X11_farNow (C_X11_farNow E) P PX K n 9 [l0, l1, l2, l3] r (σ, sz, k, c)))) ∧
  (∀ (n : Nat) (l0 l1 l3 : Option Value) (y2 : Int32) (r : List Value) (σ : zk_S) (sz k c : Nat), zk_run E (zk_VT E) M_X11_farNow (C_X11_farNow E) P PX K (n + 1) 9 [l0, l1, some (.int y2), l3] r (σ, sz, k, c) = zk_run E (zk_VT E) M_X11_farNow (C_X11_farNow E) P PX K n 10 [l0, l1, some (.int y2), l3] (.int y2 :: r) (σ, sz, k, c)) ∧
  (∀ (n : Nat) (l1 l2 l3 : Option Value) (y0 : Value) (r : List Value) (σ : zk_S) (sz k c : Nat), zk_run E (zk_VT E) M_X11_farNow (C_X11_farNow E) P PX K (n + 1) 10 [some y0, l1, l2, l3] r (σ, sz, k, c) = (zk_isr y0 ∧ zk_run E (zk_VT E) M_X11_farNow (C_X11_farNow E) P PX K n 11 [some y0, l1, l2, l3] (y0 :: r) (σ, sz, k, c))) ∧
  (∀ (n : Nat) (l0 l2 l3 : Option Value) (y1 : Int32) (r : List Value) (σ : zk_S) (sz k c : Nat), zk_run E (zk_VT E) M_X11_farNow (C_X11_farNow E) P PX K (n + 1) 11 [l0, some (.int y1), l2, l3] r (σ, sz, k, c) = zk_run E (zk_VT E) M_X11_farNow (C_X11_farNow E) P PX K n 12 [l0, some (.int y1), l2, l3] (.int y1 :: r) (σ, sz, k, c)) ∧
  (∀ (n : Nat) (l0 l1 l2 l3 : Option Value)  (r : List Value) (σ : zk_S) (sz k c : Nat), zk_run E (zk_VT E) M_X11_farNow (C_X11_farNow E) P PX K (n + 1) 12 [l0, l1, l2, l3] r (σ, sz, k, c) = zk_run E (zk_VT E) M_X11_farNow (C_X11_farNow E) P PX K n 13 [l0, l1, l2, l3] (.int ((-1)) :: r) (σ, sz, k, c)) ∧
  (∀ (n : Nat) (l0 l1 l2 l3 : Option Value)  (r : List Value) (σ : zk_S) (sz k c : Nat), zk_run E (zk_VT E) M_X11_farNow (C_X11_farNow E) P PX K (n + 1) 13 [l0, l1, l2, l3] r (σ, sz, k, c) = zk_run E (zk_VT E) M_X11_farNow (C_X11_farNow E) P PX K n 14 [l0, l1, l2, l3] (.int (2) :: r) (σ, sz, k, c)) ∧
  (∀ (n : Nat) (l1 l2 l3 : Option Value) (y0 : Value) (r : List Value) (σ : zk_S) (sz k c : Nat), zk_run E (zk_VT E) M_X11_farNow (C_X11_farNow E) P PX K (n + 1) 14 [some y0, l1, l2, l3] r (σ, sz, k, c) = (zk_isr y0 ∧ zk_run E (zk_VT E) M_X11_farNow (C_X11_farNow E) P PX K n 15 [some y0, l1, l2, l3] (y0 :: r) (σ, sz, k, c))) ∧
  (∀ (n : Nat) (l0 l1 l2 l3 : Option Value) (a : Nat) (r : List Value) (σ : zk_S) (sz k c : Nat), zk_run E (zk_VT E) M_X11_farNow (C_X11_farNow E) P PX K (n + 1) 15 [l0, l1, l2, l3] (.ref a :: r) (σ, sz, k, c) = zk_fld (zk_view E σ a) [10] 3 (fun v => zk_run E (zk_VT E) M_X11_farNow (C_X11_farNow E) P PX K n 18 [l0, l1, l2, l3] (v :: r) (σ, sz, k, c))) ∧
  (∀ (n : Nat) (l0 l2 l3 : Option Value) (y1 : Int32) (r : List Value) (σ : zk_S) (sz k c : Nat), zk_run E (zk_VT E) M_X11_farNow (C_X11_farNow E) P PX K (n + 1) 18 [l0, some (.int y1), l2, l3] r (σ, sz, k, c) = zk_run E (zk_VT E) M_X11_farNow (C_X11_farNow E) P PX K n 19 [l0, some (.int y1), l2, l3] (.int y1 :: r) (σ, sz, k, c)) ∧
  (∀ (n : Nat) (l0 l1 l2 l3 : Option Value) (a : Nat) (i : Int32) (r : List Value) (σ : zk_S) (sz k c : Nat), zk_run E (zk_VT E) M_X11_farNow (C_X11_farNow E) P PX K (n + 1) 19 [l0, l1, l2, l3] (.int i :: .ref a :: r) (σ, sz, k, c) = zk_ild (zk_view E σ a) (zk_ar E 0) i (fun x => zk_run E (zk_VT E) M_X11_farNow (C_X11_farNow E) P PX K n 20 [l0, l1, l2, l3] (.int x :: r) (σ, sz, k, c))) ∧
  (∀ (n : Nat) (l0 l1 l2 : Option Value) (y3 : Int32) (r : List Value) (σ : zk_S) (sz k c : Nat), zk_run E (zk_VT E) M_X11_farNow (C_X11_farNow E) P PX K (n + 1) 20 [l0, l1, l2, some (.int y3)] r (σ, sz, k, c) = zk_run E (zk_VT E) M_X11_farNow (C_X11_farNow E) P PX K n 21 [l0, l1, l2, some (.int y3)] (.int y3 :: r) (σ, sz, k, c)) ∧
  (∀ (n : Nat) (l0 l1 l2 l3 : Option Value)  (r : List Value) (σ : zk_S) (sz k c : Nat), zk_run E (zk_VT E) M_X11_farNow (C_X11_farNow E) P PX K (n + 1) 21 [l0, l1, l2, l3] r (σ, sz, k, c) = zk_run E (zk_VT E) M_X11_farNow (C_X11_farNow E) P PX K n 22 [l0, l1, l2, l3] (.int (2) :: r) (σ, sz, k, c)) ∧
  (∀ (n : Nat) (l0 l1 l2 l3 : Option Value) (x y : Int32) (r : List Value) (σ : zk_S) (sz k c : Nat), zk_run E (zk_VT E) M_X11_farNow (C_X11_farNow E) P PX K (n + 1) 22 [l0, l1, l2, l3] (.int y :: .int x :: r) (σ, sz, k, c) = (¬ y = 0 ∧ zk_run E (zk_VT E) M_X11_farNow (C_X11_farNow E) P PX K n 23 [l0, l1, l2, l3] (.int (x - x / y * y) :: r) (σ, sz, k, c))) ∧
  (∀ (n : Nat) (l1 l2 l3 : Option Value) (y0 : Value) (r : List Value) (σ : zk_S) (sz k c : Nat), zk_run E (zk_VT E) M_X11_farNow (C_X11_farNow E) P PX K (n + 1) 23 [some y0, l1, l2, l3] r (σ, sz, k, c) = (zk_isr y0 ∧ zk_run E (zk_VT E) M_X11_farNow (C_X11_farNow E) P PX K n 24 [some y0, l1, l2, l3] (y0 :: r) (σ, sz, k, c))) ∧
  (∀ (n : Nat) (l0 l1 l2 l3 : Option Value) (a : Nat) (r : List Value) (σ : zk_S) (sz k c : Nat), zk_run E (zk_VT E) M_X11_farNow (C_X11_farNow E) P PX K (n + 1) 24 [l0, l1, l2, l3] (.ref a :: r) (σ, sz, k, c) = zk_fld (zk_view E σ a) [10] 5 (fun v => zk_run E (zk_VT E) M_X11_farNow (C_X11_farNow E) P PX K n 27 [l0, l1, l2, l3] (v :: r) (σ, sz, k, c))) ∧
  (∀ (n : Nat) (l0 l2 l3 : Option Value) (y1 : Int32) (r : List Value) (σ : zk_S) (sz k c : Nat), zk_run E (zk_VT E) M_X11_farNow (C_X11_farNow E) P PX K (n + 1) 27 [l0, some (.int y1), l2, l3] r (σ, sz, k, c) = zk_run E (zk_VT E) M_X11_farNow (C_X11_farNow E) P PX K n 28 [l0, some (.int y1), l2, l3] (.int y1 :: r) (σ, sz, k, c)) ∧
  (∀ (n : Nat) (l0 l1 l2 l3 : Option Value) (a : Nat) (i : Int32) (r : List Value) (σ : zk_S) (sz k c : Nat), zk_run E (zk_VT E) M_X11_farNow (C_X11_farNow E) P PX K (n + 1) 28 [l0, l1, l2, l3] (.int i :: .ref a :: r) (σ, sz, k, c) = zk_ild (zk_view E σ a) (zk_ar E 0) i (fun x => zk_run E (zk_VT E) M_X11_farNow (C_X11_farNow E) P PX K n 29 [l0, l1, l2, l3] (.int x :: r) (σ, sz, k, c))) ∧
  (∀ (n : Nat) (l0 l1 l2 l3 : Option Value) (x y : Int32) (r : List Value) (σ : zk_S) (sz k c : Nat), zk_run E (zk_VT E) M_X11_farNow (C_X11_farNow E) P PX K (n + 1) 29 [l0, l1, l2, l3] (.int y :: .int x :: r) (σ, sz, k, c) = zk_run E (zk_VT E) M_X11_farNow (C_X11_farNow E) P PX K n 30 [l0, l1, l2, l3] (.int (x * y) :: r) (σ, sz, k, c)) ∧
  (∀ (n : Nat) (l0 l1 l2 l3 : Option Value) (x y : Int32) (r : List Value) (σ : zk_S) (sz k c : Nat), zk_run E (zk_VT E) M_X11_farNow (C_X11_farNow E) P PX K (n + 1) 30 [l0, l1, l2, l3] (.int y :: .int x :: r) (σ, sz, k, c) = zk_run E (zk_VT E) M_X11_farNow (C_X11_farNow E) P PX K n 31 [l0, l1, l2, l3] (.int (x + y) :: r) (σ, sz, k, c)) ∧
  (∀ (n : Nat) (l0 l1 l2 l3 : Option Value) (x y : Int32) (r : List Value) (σ : zk_S) (sz k c : Nat), zk_run E (zk_VT E) M_X11_farNow (C_X11_farNow E) P PX K (n + 1) 31 [l0, l1, l2, l3] (.int y :: .int x :: r) (σ, sz, k, c) = zk_run E (zk_VT E) M_X11_farNow (C_X11_farNow E) P PX K n 32 [l0, l1, l2, l3] (.int (x * y) :: r) (σ, sz, k, c)) ∧
  (∀ (n : Nat) (l0 l1 l2 l3 : Option Value)  (r : List Value) (σ : zk_S) (sz k c : Nat), zk_run E (zk_VT E) M_X11_farNow (C_X11_farNow E) P PX K (n + 1) 32 [l0, l1, l2, l3] r (σ, sz, k, c) = zk_run E (zk_VT E) M_X11_farNow (C_X11_farNow E) P PX K n 33 [l0, l1, l2, l3] (.int (2) :: r) (σ, sz, k, c)) ∧
  (∀ (n : Nat) (l1 l2 l3 : Option Value) (y0 : Value) (r : List Value) (σ : zk_S) (sz k c : Nat), zk_run E (zk_VT E) M_X11_farNow (C_X11_farNow E) P PX K (n + 1) 33 [some y0, l1, l2, l3] r (σ, sz, k, c) = (zk_isr y0 ∧ zk_run E (zk_VT E) M_X11_farNow (C_X11_farNow E) P PX K n 34 [some y0, l1, l2, l3] (y0 :: r) (σ, sz, k, c))) ∧
  (∀ (n : Nat) (l0 l1 l2 l3 : Option Value) (a : Nat) (r : List Value) (σ : zk_S) (sz k c : Nat), zk_run E (zk_VT E) M_X11_farNow (C_X11_farNow E) P PX K (n + 1) 34 [l0, l1, l2, l3] (.ref a :: r) (σ, sz, k, c) = zk_fld (zk_view E σ a) [10] 4 (fun v => zk_run E (zk_VT E) M_X11_farNow (C_X11_farNow E) P PX K n 37 [l0, l1, l2, l3] (v :: r) (σ, sz, k, c))) ∧
  (∀ (n : Nat) (l0 l2 l3 : Option Value) (y1 : Int32) (r : List Value) (σ : zk_S) (sz k c : Nat), zk_run E (zk_VT E) M_X11_farNow (C_X11_farNow E) P PX K (n + 1) 37 [l0, some (.int y1), l2, l3] r (σ, sz, k, c) = zk_run E (zk_VT E) M_X11_farNow (C_X11_farNow E) P PX K n 38 [l0, some (.int y1), l2, l3] (.int y1 :: r) (σ, sz, k, c)) ∧
  (∀ (n : Nat) (l0 l1 l2 l3 : Option Value) (a : Nat) (i : Int32) (r : List Value) (σ : zk_S) (sz k c : Nat), zk_run E (zk_VT E) M_X11_farNow (C_X11_farNow E) P PX K (n + 1) 38 [l0, l1, l2, l3] (.int i :: .ref a :: r) (σ, sz, k, c) = zk_ild (zk_view E σ a) (zk_ar E 0) i (fun x => zk_run E (zk_VT E) M_X11_farNow (C_X11_farNow E) P PX K n 39 [l0, l1, l2, l3] (.int x :: r) (σ, sz, k, c))) ∧
  (∀ (n : Nat) (l0 l1 l2 : Option Value) (y3 : Int32) (r : List Value) (σ : zk_S) (sz k c : Nat), zk_run E (zk_VT E) M_X11_farNow (C_X11_farNow E) P PX K (n + 1) 39 [l0, l1, l2, some (.int y3)] r (σ, sz, k, c) = zk_run E (zk_VT E) M_X11_farNow (C_X11_farNow E) P PX K n 40 [l0, l1, l2, some (.int y3)] (.int y3 :: r) (σ, sz, k, c)) ∧
  (∀ (n : Nat) (l0 l1 l2 l3 : Option Value)  (r : List Value) (σ : zk_S) (sz k c : Nat), zk_run E (zk_VT E) M_X11_farNow (C_X11_farNow E) P PX K (n + 1) 40 [l0, l1, l2, l3] r (σ, sz, k, c) = zk_run E (zk_VT E) M_X11_farNow (C_X11_farNow E) P PX K n 41 [l0, l1, l2, l3] (.int (2) :: r) (σ, sz, k, c)) ∧
  (∀ (n : Nat) (l0 l1 l2 l3 : Option Value) (x y : Int32) (r : List Value) (σ : zk_S) (sz k c : Nat), zk_run E (zk_VT E) M_X11_farNow (C_X11_farNow E) P PX K (n + 1) 41 [l0, l1, l2, l3] (.int y :: .int x :: r) (σ, sz, k, c) = (¬ y = 0 ∧ zk_run E (zk_VT E) M_X11_farNow (C_X11_farNow E) P PX K n 42 [l0, l1, l2, l3] (.int (x / y) :: r) (σ, sz, k, c))) ∧
  (∀ (n : Nat) (l1 l2 l3 : Option Value) (y0 : Value) (r : List Value) (σ : zk_S) (sz k c : Nat), zk_run E (zk_VT E) M_X11_farNow (C_X11_farNow E) P PX K (n + 1) 42 [some y0, l1, l2, l3] r (σ, sz, k, c) = (zk_isr y0 ∧ zk_run E (zk_VT E) M_X11_farNow (C_X11_farNow E) P PX K n 43 [some y0, l1, l2, l3] (y0 :: r) (σ, sz, k, c))) ∧
  (∀ (n : Nat) (l0 l1 l2 l3 : Option Value) (a : Nat) (r : List Value) (σ : zk_S) (sz k c : Nat), zk_run E (zk_VT E) M_X11_farNow (C_X11_farNow E) P PX K (n + 1) 43 [l0, l1, l2, l3] (.ref a :: r) (σ, sz, k, c) = zk_fld (zk_view E σ a) [10] 6 (fun v => zk_run E (zk_VT E) M_X11_farNow (C_X11_farNow E) P PX K n 46 [l0, l1, l2, l3] (v :: r) (σ, sz, k, c))) ∧
  (∀ (n : Nat) (l0 l2 l3 : Option Value) (y1 : Int32) (r : List Value) (σ : zk_S) (sz k c : Nat), zk_run E (zk_VT E) M_X11_farNow (C_X11_farNow E) P PX K (n + 1) 46 [l0, some (.int y1), l2, l3] r (σ, sz, k, c) = zk_run E (zk_VT E) M_X11_farNow (C_X11_farNow E) P PX K n 47 [l0, some (.int y1), l2, l3] (.int y1 :: r) (σ, sz, k, c)) ∧
  (∀ (n : Nat) (l0 l1 l2 l3 : Option Value) (a : Nat) (i : Int32) (r : List Value) (σ : zk_S) (sz k c : Nat), zk_run E (zk_VT E) M_X11_farNow (C_X11_farNow E) P PX K (n + 1) 47 [l0, l1, l2, l3] (.int i :: .ref a :: r) (σ, sz, k, c) = zk_ild (zk_view E σ a) (zk_ar E 0) i (fun x => zk_run E (zk_VT E) M_X11_farNow (C_X11_farNow E) P PX K n 48 [l0, l1, l2, l3] (.int x :: r) (σ, sz, k, c))) ∧
  (∀ (n : Nat) (l0 l1 l2 l3 : Option Value) (x y : Int32) (r : List Value) (σ : zk_S) (sz k c : Nat), zk_run E (zk_VT E) M_X11_farNow (C_X11_farNow E) P PX K (n + 1) 48 [l0, l1, l2, l3] (.int y :: .int x :: r) (σ, sz, k, c) = zk_run E (zk_VT E) M_X11_farNow (C_X11_farNow E) P PX K n 49 [l0, l1, l2, l3] (.int (x * y) :: r) (σ, sz, k, c)) ∧
  (∀ (n : Nat) (l0 l1 l2 l3 : Option Value) (x y : Int32) (r : List Value) (σ : zk_S) (sz k c : Nat), zk_run E (zk_VT E) M_X11_farNow (C_X11_farNow E) P PX K (n + 1) 49 [l0, l1, l2, l3] (.int y :: .int x :: r) (σ, sz, k, c) = zk_run E (zk_VT E) M_X11_farNow (C_X11_farNow E) P PX K n 50 [l0, l1, l2, l3] (.int (x + y) :: r) (σ, sz, k, c)) := ⟨by intros; rfl, by intros; rfl, by intros; rfl, by intros; rfl, by intros; rfl, by intros; rfl, by intros; rfl, by intros; rfl, by intros; rfl, by intros; rfl, by intros; rfl, by intros; rfl, by intros; rfl, by intros; rfl, by intros; rfl, by intros; rfl, by intros; rfl, by intros; rfl, by intros; rfl, by intros; rfl, by intros; rfl, by intros; rfl, by intros; rfl, by intros; rfl, by intros; rfl, by intros; rfl, by intros; rfl, by intros; rfl, by intros; rfl, by intros; rfl, by intros; rfl, by intros; rfl, by intros; rfl, by intros; rfl, by intros; rfl, by intros; rfl, by intros; rfl, by intros; rfl, by intros; rfl, by intros; rfl⟩
theorem r_X11_farNow_1 (E : zk_E) (P : zk_P zk_S) (PX : zk_X zk_S) (K : Nat → zk_L → List Value → zk_W zk_S → Prop) : (∀ (n : Nat) (l0 l1 l2 l3 : Option Value) (x y : Int32) (r : List Value) (σ : zk_S) (sz k c : Nat), zk_run E (zk_VT E) M_X11_farNow (C_X11_farNow E) P PX K (n + 1) 50 [l0, l1, l2, l3] (.int y :: .int x :: r) (σ, sz, k, c) = zk_run E (zk_VT E) M_X11_farNow (C_X11_farNow E) P PX K n 51 [l0, l1, l2, l3] (.int (x * y) :: r) (σ, sz, k, c)) ∧
  (∀ (n : Nat) (l0 l1 l2 l3 : Option Value) (v0 : Value) (v1 : Value) (v2 : Value) (v3 : Value) (v4 : Value) (v5 : Value)  (σ : zk_S) (sz k c : Nat), zk_run E (zk_VT E) M_X11_farNow (C_X11_farNow E) P PX K (n + 1) 51 [l0, l1, l2, l3] [v0, v1, v2, v3, v4, v5] (σ, sz, k, c) = (k + 0 ≤ 0 ∧ c + 0 ≤ 0 ∧ (zk_rv (zk_VT E) (fun ci => Nat.beq ci 10) (sp_X11_least E)) [v4, v3, v2, v1, v0] σ sz (fun v s2 z2 => zk_run E (zk_VT E) M_X11_farNow (C_X11_farNow E) P PX K n 54 [l0, l1, l2, l3] (zk_psh v [v5]) (s2, z2, k + 0, c + 0)) (fun X s2 z2 => PX X s2 z2))) ∧
  (∀ (n : Nat) (l0 l1 l2 l3 : Option Value) (x y : Int32)  (σ : zk_S) (sz k c : Nat), zk_run E (zk_VT E) M_X11_farNow (C_X11_farNow E) P PX K (n + 1) 54 [l0, l1, l2, l3] (.int y :: .int x :: []) (σ, sz, k, c) = (([] : List Value).length ≤ 4 ∧ k ≤ 0 ∧ c ≤ 0 ∧ zk_run E (zk_VT E) M_X11_farNow (C_X11_farNow E) P PX K n 57 [l0, l1, l2, l3] (.int (i_max x y) :: []) (σ, sz, k, c))) ∧
  (∀ (n : Nat) (l0 l1 l2 l3 : Option Value) (x : Int32) (r : List Value) (σ : zk_S) (sz k c : Nat), zk_run E (zk_VT E) M_X11_farNow (C_X11_farNow E) P PX K (n + 1) 57 [l0, l1, l2, l3] (.int x :: r) (σ, sz, k, c) = zk_run E (zk_VT E) M_X11_farNow (C_X11_farNow E) P PX K n 58 [l0, zk_kl l1, some (.int x), l3] r (σ, sz, k, c)) ∧
  (∀ (n : Nat) (l0 l1 l2 : Option Value) (y3 : Int32) (r : List Value) (σ : zk_S) (sz k c : Nat), zk_run E (zk_VT E) M_X11_farNow (C_X11_farNow E) P PX K (n + 1) 58 [l0, l1, l2, some (.int y3)] r (σ, sz, k, c) = zk_run E (zk_VT E) M_X11_farNow (C_X11_farNow E) P PX K n 61 [l0, l1, zk_kl l2, some (.int (y3 + 1))] r (σ, sz, k, c)) ∧
  (∀ (n : Nat) (l0 l1 l2 l3 : Option Value)  (r : List Value) (σ : zk_S) (sz k c : Nat), zk_run E (zk_VT E) M_X11_farNow (C_X11_farNow E) P PX K (n + 1) 61 [l0, l1, l2, l3] r (σ, sz, k, c) = zk_run E (zk_VT E) M_X11_farNow (C_X11_farNow E) P PX K n 4 [l0, l1, l2, l3] r (σ, sz, k, c)) ∧
  (∀ (n : Nat) (l1 l2 l3 : Option Value) (y0 : Value) (r : List Value) (σ : zk_S) (sz k c : Nat), zk_run E (zk_VT E) M_X11_farNow (C_X11_farNow E) P PX K (n + 1) 64 [some y0, l1, l2, l3] r (σ, sz, k, c) = (zk_isr y0 ∧ zk_run E (zk_VT E) M_X11_farNow (C_X11_farNow E) P PX K n 65 [some y0, l1, l2, l3] (y0 :: r) (σ, sz, k, c))) ∧
  (∀ (n : Nat) (l0 l2 l3 : Option Value) (y1 : Int32) (r : List Value) (σ : zk_S) (sz k c : Nat), zk_run E (zk_VT E) M_X11_farNow (C_X11_farNow E) P PX K (n + 1) 65 [l0, some (.int y1), l2, l3] r (σ, sz, k, c) = zk_run E (zk_VT E) M_X11_farNow (C_X11_farNow E) P PX K n 66 [l0, some (.int y1), l2, l3] (.int y1 :: r) (σ, sz, k, c)) ∧
  (∀ (n : Nat) (l0 l1 l2 l3 : Option Value) (v0 : Value) (v1 : Value)  (σ : zk_S) (sz k c : Nat), zk_run E (zk_VT E) M_X11_farNow (C_X11_farNow E) P PX K (n + 1) 66 [l0, l1, l2, l3] [v0, v1] (σ, sz, k, c) = (k + 0 ≤ 0 ∧ c + 0 ≤ 0 ∧ (zk_rv (zk_VT E) (fun ci => Nat.beq ci 10) (sp_X11_isLostNow E)) [v1, v0] σ sz (fun v s2 z2 => zk_run E (zk_VT E) M_X11_farNow (C_X11_farNow E) P PX K n 69 [l0, l1, l2, l3] (zk_psh v []) (s2, z2, k + 0, c + 0)) (fun X s2 z2 => PX X s2 z2))) ∧
  (∀ (n : Nat) (l0 l1 l2 l3 : Option Value) (x : Int32) (r : List Value) (σ : zk_S) (sz k c : Nat), zk_run E (zk_VT E) M_X11_farNow (C_X11_farNow E) P PX K (n + 1) 69 [l0, l1, l2, l3] (.int x :: r) (σ, sz, k, c) = ((x = 0 → zk_run E (zk_VT E) M_X11_farNow (C_X11_farNow E) P PX K n 76 [l0, l1, l2, l3] r (σ, sz, k, c)) ∧ (¬ (x = 0) → zk_run E (zk_VT E) M_X11_farNow (C_X11_farNow E) P PX K n 72 [l0, l1, l2, l3] r (σ, sz, k, c)))) ∧
  (∀ (n : Nat) (l0 l1 l2 l3 : Option Value)  (r : List Value) (σ : zk_S) (sz k c : Nat), zk_run E (zk_VT E) M_X11_farNow (C_X11_farNow E) P PX K (n + 1) 72 [l0, l1, l2, l3] r (σ, sz, k, c) = zk_run E (zk_VT E) M_X11_farNow (C_X11_farNow E) P PX K n 73 [l0, l1, l2, l3] (.int ((-1)) :: r) (σ, sz, k, c)) ∧
  (∀ (n : Nat) (l0 l1 l2 l3 : Option Value)  (r : List Value) (σ : zk_S) (sz k c : Nat), zk_run E (zk_VT E) M_X11_farNow (C_X11_farNow E) P PX K (n + 1) 73 [l0, l1, l2, l3] r (σ, sz, k, c) = zk_run E (zk_VT E) M_X11_farNow (C_X11_farNow E) P PX K n 77 [l0, l1, l2, l3] r (σ, sz, k, c)) ∧
  (∀ (n : Nat) (l0 l1 l3 : Option Value) (y2 : Int32) (r : List Value) (σ : zk_S) (sz k c : Nat), zk_run E (zk_VT E) M_X11_farNow (C_X11_farNow E) P PX K (n + 1) 76 [l0, l1, some (.int y2), l3] r (σ, sz, k, c) = zk_run E (zk_VT E) M_X11_farNow (C_X11_farNow E) P PX K n 77 [l0, l1, some (.int y2), l3] (.int y2 :: r) (σ, sz, k, c)) ∧
  (∀ (n : Nat) (l0 l1 l2 l3 : Option Value) (x : Int32)  (σ : zk_S) (sz k c : Nat), zk_run E (zk_VT E) M_X11_farNow (C_X11_farNow E) P PX K (n + 1) 77 [l0, l1, l2, l3] [.int x] (σ, sz, k, c) = (zk_nok (some (.int)) x ∧ P (some (.int x)) σ sz ∧ k ≤ 0 ∧ c ≤ 0)) ∧
  (∀ (n : Nat) (l0 l1 l2 l3 : Option Value) (r : List Value) (w : zk_W zk_S), zk_go E (zk_VT E) M_X11_farNow (C_X11_farNow E) P PX K n 0 [l0, l1, l2, l3] r w = zk_run E (zk_VT E) M_X11_farNow (C_X11_farNow E) P PX K (n + 1) 0 [l0, l1, l2, l3] r w) ∧
  (∀ (n : Nat) (l0 l1 l2 : Option Value) (y3 : Int32) (r : List Value) (σ : zk_S) (sz k c : Nat), zk_go E (zk_VT E) M_X11_farNow (C_X11_farNow E) P PX K n 4 [l0, l1, l2, some (.int y3)] r (σ, sz, k, c) = zk_run E (zk_VT E) M_X11_farNow (C_X11_farNow E) P PX K n 5 [l0, l1, l2, some (.int y3)] (.int y3 :: r) (σ, sz, k, c)) := ⟨by intros; rfl, by intros; rfl, by intros; rfl, by intros; rfl, by intros; rfl, by intros; rfl, by intros; rfl, by intros; rfl, by intros; rfl, by intros; rfl, by intros; rfl, by intros; rfl, by intros; rfl, by intros; rfl, by intros; rfl, by intros; rfl⟩
theorem vc_X11_farNow (E : zk_E) : zk_VC E (zk_VT E) M_X11_farNow (C_X11_farNow E) 4 (sp_X11_farNow E) := by
  intro av σ sz P PX h
  obtain ⟨J, N, Q, O, U⟩ := σ
  unfold sp_X11_farNow at h
  split at h
  case h_2 => exact h.elim
  rename_i a0 r
  obtain ⟨rfl, h⟩ := h
  refine ⟨Nat.le_of_ble_eq_true rfl, fun G hG => ?_⟩
  change G 0 [some (.ref (zk_ad E 22)), some (.int r), none, none] [] ((J, N, Q, O, U), sz, 0, 0)
  try dsimp only at h
  obtain ⟨hmi, hsv, ⟨j, hj, rfl⟩, h⟩ := h
  have hms := hmi.1
  have hj20 : j < 20 := Nat.lt_of_lt_of_le hj hms.1.2
  have hin : vp_in (nI j) 20 := n_in hj20 (by decide)
  have hcl : (nI j).toNatClampNeg = j := n_cl (by omega)
  rw [hcl] at h
  have hvw := hsv.vw hmi
  have hrw := hsv.1
  have hx3 : ∃ j', j' < m_nr J ∧ nI j = nI j' := ⟨j, hj, rfl⟩
  have loop : ∀ m c, c + m = 4 → G 4 [some (.ref (zk_ad E 22)), some (.int (nI j)), some (.int (nI (g_far J N j c))), some (.int (nI c))] [] ((J, N, Q, O, U), sz, 0, 0) := by
    intro m
    induction m with
    | zero =>
      intro c hc
      have c1 : (4 : Int32) ≤ nI c := (nI_le (a := 4) (by omega) (by omega) : nI 4 ≤ nI c)
      have e4 : c = 4 := by omega
      subst e4
      unfold a_far at h
      by_cases q : lea J N j = 100
      · rw [if_pos q] at h
        have ql : a_isLost J N j = true := decide_eq_true q
        (refine hG 900 _ _ _ _ ?_; simp only [r_X11_farNow, r_X11_farNow_1, zk_kl_none, zk_kl_int, zk_kl_ref, zk_kl_null, zk_kl_long, zk_kl_rf, zk_isr_ref, zk_isr_null, zk_isr_rf9, zk_c1_int, zk_c1_ref, zk_c1_null, zk_c1_rf, zk_psh_some, zk_psh_none, zk_nok_int, zk_nok_bool0, zk_nok_bool1, zk_nok_b, zk_fok_0, zk_fok_1, zk_fok_2, zk_fok_n, zk_fok_rf, zb_f, zb_p, zb_i, zb_a, zb_s, zk_nth_0, zk_nth_s, zk_fld_o, zk_put_o, zk_rv_eq, zk_ri_eq, zk_is_o, List.mem_cons, List.not_mem_nil, or_false, false_or, or_true, true_or, and_true, true_and, not_false_iff, not_true_eq_false, true_implies, false_implies, imp_self, implies_true, forall_const, zk_lit, zk_uj_ap, zk_un_ap, zk_un_un, zk_uj_uj, Nat.reduceEqDiff, eq_self, zk_bq, Bool.true_or, Bool.false_or, Nat.le_refl, Nat.zero_add, Nat.add_zero, Nat.reduceAdd, Nat.reduceLeDiff, Nat.le_zero_eq, and_self, and_false, false_and, ite_true, ite_false, Nat.zero_le, List.length_cons, List.length_nil, Option.some.injEq, forall_eq', reduceCtorEq, c1, spe_X11_isLostNow, hms, hsv, hx3, hcl, ql, zk_b0, Bool.true_eq_false])
        exact h
      · rw [if_neg q] at h
        have ql : a_isLost J N j = false := decide_eq_false q
        (refine hG 900 _ _ _ _ ?_; simp only [r_X11_farNow, r_X11_farNow_1, zk_kl_none, zk_kl_int, zk_kl_ref, zk_kl_null, zk_kl_long, zk_kl_rf, zk_isr_ref, zk_isr_null, zk_isr_rf9, zk_c1_int, zk_c1_ref, zk_c1_null, zk_c1_rf, zk_psh_some, zk_psh_none, zk_nok_int, zk_nok_bool0, zk_nok_bool1, zk_nok_b, zk_fok_0, zk_fok_1, zk_fok_2, zk_fok_n, zk_fok_rf, zb_f, zb_p, zb_i, zb_a, zb_s, zk_nth_0, zk_nth_s, zk_fld_o, zk_put_o, zk_rv_eq, zk_ri_eq, zk_is_o, List.mem_cons, List.not_mem_nil, or_false, false_or, or_true, true_or, and_true, true_and, not_false_iff, not_true_eq_false, true_implies, false_implies, imp_self, implies_true, forall_const, zk_lit, zk_uj_ap, zk_un_ap, zk_un_un, zk_uj_uj, Nat.reduceEqDiff, eq_self, zk_bq, Bool.true_or, Bool.false_or, Nat.le_refl, Nat.zero_add, Nat.add_zero, Nat.reduceAdd, Nat.reduceLeDiff, Nat.le_zero_eq, and_self, and_false, false_and, ite_true, ite_false, Nat.zero_le, List.length_cons, List.length_nil, Option.some.injEq, forall_eq', reduceCtorEq, c1, spe_X11_isLostNow, hms, hsv, hx3, hcl, ql, zk_b0])
        exact h
    | succ m ih =>
      intro c hc
      have c1 : ¬ (4 : Int32) ≤ nI c := (nI_ge (b := 4) (by omega) (by decide) : ¬ nI 4 ≤ nI c)
      have ih2 := ih (c + 1) (by omega)
      have h1 : nI c / 2 = nI (c / 2) := n_div2 (by omega)
      have h2 : nI c - nI (c / 2) * 2 = nI (c % 2) := by rw [← h1]; exact n_rem2 (by omega)
      obtain ⟨⟨x1, x2⟩, y1, y2⟩ := g_cxy (c := c) hmi hj (by omega)
      have f1 := g_far_INF J N j c
      have f2 : i_max (nI (g_far J N j c)) (nI (g_cor J N j c)) = nI (g_far J N j (c + 1)) := by
        have := g_least_INF J N (LL J N) (nI j) (-1) (2 * ((N 24 j).toNatClampNeg + c % 2 * (N 26 j).toNatClampNeg)) (2 * ((N 25 j).toNatClampNeg + c / 2 * (N 27 j).toNatClampNeg))
        exact n_max (by unfold INF at f1; omega) (by unfold INF at this; unfold g_cor; omega)
      unfold g_cor at f2
      generalize 2 * ((N 24 j).toNatClampNeg + c % 2 * (N 26 j).toNatClampNeg) = X at x1 x2 f2
      generalize 2 * ((N 25 j).toNatClampNeg + c / 2 * (N 27 j).toNatClampNeg) = Y at y1 y2 f2
      have hxy : ∃ x y, x ≤ 400 ∧ y ≤ 400 ∧ nI X = nI x ∧ nI Y = nI y := ⟨X, Y, x2, y2, rfl, rfl⟩
      have hcx : (nI X).toNatClampNeg = X := n_cl (by omega)
      have hcy : (nI Y).toNatClampNeg = Y := n_cl (by omega)
      have hl := fun r b x y => hsv.least (r := r) (b := b) (x := x) (y := y)
      (refine hG 900 _ _ _ _ ?_; simp only [r_X11_farNow, r_X11_farNow_1, zk_kl_none, zk_kl_int, zk_kl_ref, zk_kl_null, zk_kl_long, zk_kl_rf, zk_isr_ref, zk_isr_null, zk_isr_rf9, zk_c1_int, zk_c1_ref, zk_c1_null, zk_c1_rf, zk_psh_some, zk_psh_none, zk_nok_int, zk_nok_bool0, zk_nok_bool1, zk_nok_b, zk_fok_0, zk_fok_1, zk_fok_2, zk_fok_n, zk_fok_rf, zb_f, zb_p, zb_i, zb_a, zb_s, zk_nth_0, zk_nth_s, zk_fld_o, zk_put_o, zk_rv_eq, zk_ri_eq, zk_is_o, List.mem_cons, List.not_mem_nil, or_false, false_or, or_true, true_or, and_true, true_and, not_false_iff, not_true_eq_false, true_implies, false_implies, imp_self, implies_true, forall_const, zk_lit, zk_uj_ap, zk_un_ap, zk_un_un, zk_uj_uj, Nat.reduceEqDiff, eq_self, zk_bq, Bool.true_or, Bool.false_or, Nat.le_refl, Nat.zero_add, Nat.add_zero, Nat.reduceAdd, Nat.reduceLeDiff, Nat.le_zero_eq, and_self, and_false, false_and, ite_true, ite_false, Nat.zero_le, List.length_cons, List.length_nil, Option.some.injEq, forall_eq', reduceCtorEq, c1, hin, hcl, h1, h2, x1, y1, spe_X11_least, hms, hrw, hvw, hxy, hcx, hcy, hl, f2, n_succ])
      exact ih2
  have l0 := loop 4 0 rfl
  (refine hG 900 _ _ _ _ ?_; simp only [r_X11_farNow, r_X11_farNow_1, zk_kl_none, zk_kl_int, zk_kl_ref, zk_kl_null, zk_kl_long, zk_kl_rf, zk_isr_ref, zk_isr_null, zk_isr_rf9, zk_c1_int, zk_c1_ref, zk_c1_null, zk_c1_rf, zk_psh_some, zk_psh_none, zk_nok_int, zk_nok_bool0, zk_nok_bool1, zk_nok_b, zk_fok_0, zk_fok_1, zk_fok_2, zk_fok_n, zk_fok_rf, zb_f, zb_p, zb_i, zb_a, zb_s, zk_nth_0, zk_nth_s, zk_fld_o, zk_put_o, zk_rv_eq, zk_ri_eq, zk_is_o, List.mem_cons, List.not_mem_nil, or_false, false_or, or_true, true_or, and_true, true_and, not_false_iff, not_true_eq_false, true_implies, false_implies, imp_self, implies_true, forall_const, zk_lit, zk_uj_ap, zk_un_ap, zk_un_un, zk_uj_uj, Nat.reduceEqDiff, eq_self, zk_bq, Bool.true_or, Bool.false_or, Nat.le_refl, Nat.zero_add, Nat.add_zero, Nat.reduceAdd, Nat.reduceLeDiff, Nat.le_zero_eq, and_self, and_false, false_and, ite_true, ite_false, Nat.zero_le, List.length_cons, List.length_nil, Option.some.injEq, forall_eq', reduceCtorEq])
  exact l0
theorem ct_X11_farNow {l : Launch} (hl : l.stackTraces = false) (E : zk_E) : zk_C l E (zk_VT E) yX11_farNow cX11_farNow 4 (some (.int)) rm_X11_farNow (sp_X11_farNow E) := by
  refine zk_meth (M := M_X11_farNow) (C := C_X11_farNow E) hl (by decide +kernel) rfl (fun _ _ => rfl) (zk_VT_ok E) MO_X11_farNow TO_X11_farNow THo_X11_farNow ?_ (vc_X11_farNow E)
  exact fun p e s m args below meth c X pc n mc ms sp2 h => by
    have h2 := zk_lka_mem h
    simp only [List.mem_cons, List.not_mem_nil, or_false, Prod.mk.injEq] at h2
    rcases h2 with ⟨rfl, rfl, rfl, rfl, rfl⟩ | ⟨rfl, rfl, rfl, rfl, rfl⟩
    · exact zk_coV (idx := 216) X (ct_X11_least hl E) (List.forall_mem_cons.mpr ⟨zk_wi 1252 (by decide +kernel) rfl, List.forall_mem_cons.mpr ⟨zk_wi 1254 (by decide +kernel) rfl, List.forall_mem_cons.mpr ⟨zk_wp 30 (by decide +kernel) rfl, List.forall_mem_cons.mpr ⟨zk_wi 6 (by decide +kernel) rfl, List.forall_mem_cons.mpr ⟨zk_wi 1255 (by decide +kernel) rfl, fun _ h => absurd h List.not_mem_nil⟩⟩⟩⟩⟩) (fun ci h => by
      have h := Nat.eq_of_beq_eq_true h
      subst h
      exact ⟨_, _, rfl⟩) (by decide +kernel) ⟨by decide, by decide, by decide +kernel⟩ ⟨by decide, by decide⟩
    · exact zk_coV (idx := 230) X (ct_X11_isLostNow hl E) (List.forall_mem_cons.mpr ⟨zk_wi 1273 (by decide +kernel) rfl, List.forall_mem_cons.mpr ⟨zk_wi 1275 (by decide +kernel) rfl, List.forall_mem_cons.mpr ⟨zk_wp 35 (by decide +kernel) rfl, List.forall_mem_cons.mpr ⟨zk_wi 6 (by decide +kernel) rfl, List.forall_mem_cons.mpr ⟨zk_wi 1276 (by decide +kernel) rfl, fun _ h => absurd h List.not_mem_nil⟩⟩⟩⟩⟩) (fun ci h => by
      have h := Nat.eq_of_beq_eq_true h
      subst h
      exact ⟨_, _, rfl⟩) (by decide +kernel) ⟨by decide, by decide, by decide +kernel⟩ ⟨by decide, by decide⟩
def sp_X11_leavingNow (E : zk_E) : zk_Sp zk_S := fun av σ sz P PX => match av with
  | [.ref a, .int r] => a = zk_ad E 22 ∧ MS σ.1 ∧ SV σ.1 σ.2.1 ∧ (∃ j, j < m_nr σ.1 ∧ r = nI j) ∧ P (some (.int (a_leav σ.1 σ.2.1 r.toNatClampNeg))) σ sz
  | _ => False
theorem spe_X11_leavingNow (E : zk_E) (a : Nat) (r : Int32) (σ : zk_S) (sz : Nat) (P : zk_P zk_S) (PX : zk_X zk_S) : sp_X11_leavingNow E [.ref a, .int r] σ sz P PX = (a = zk_ad E 22 ∧ MS σ.1 ∧ SV σ.1 σ.2.1 ∧ (∃ j, j < m_nr σ.1 ∧ r = nI j) ∧ P (some (.int (a_leav σ.1 σ.2.1 r.toNatClampNeg))) σ sz) := propext Iff.rfl
def C_X11_leavingNow (E : zk_E) : zk_Cl zk_S := zk_lka [(2, 2, 0, 0, zk_rv (zk_VT E) (fun ci => Nat.beq ci 10) (sp_X11_isLostNow E))]
theorem r_X11_leavingNow (E : zk_E) (P : zk_P zk_S) (PX : zk_X zk_S) (K : Nat → zk_L → List Value → zk_W zk_S → Prop) : (∀ (n : Nat) (l1 : Option Value) (y0 : Value) (r : List Value) (σ : zk_S) (sz k c : Nat), zk_run E (zk_VT E) M_X11_leavingNow (C_X11_leavingNow E) P PX K (n + 1) 0 [some y0, l1] r (σ, sz, k, c) = (zk_isr y0 ∧ zk_run E (zk_VT E) M_X11_leavingNow (C_X11_leavingNow E) P PX K n 1 [some y0, l1] (y0 :: r) (σ, sz, k, c))) ∧
  (∀ (n : Nat) (l0 : Option Value) (y1 : Int32) (r : List Value) (σ : zk_S) (sz k c : Nat), zk_run E (zk_VT E) M_X11_leavingNow (C_X11_leavingNow E) P PX K (n + 1) 1 [l0, some (.int y1)] r (σ, sz, k, c) = zk_run E (zk_VT E) M_X11_leavingNow (C_X11_leavingNow E) P PX K n 2 [l0, some (.int y1)] (.int y1 :: r) (σ, sz, k, c)) ∧
  (∀ (n : Nat) (l0 l1 : Option Value) (v0 : Value) (v1 : Value)  (σ : zk_S) (sz k c : Nat), zk_run E (zk_VT E) M_X11_leavingNow (C_X11_leavingNow E) P PX K (n + 1) 2 [l0, l1] [v0, v1] (σ, sz, k, c) = (k + 0 ≤ 0 ∧ c + 0 ≤ 0 ∧ (zk_rv (zk_VT E) (fun ci => Nat.beq ci 10) (sp_X11_isLostNow E)) [v1, v0] σ sz (fun v s2 z2 => zk_run E (zk_VT E) M_X11_leavingNow (C_X11_leavingNow E) P PX K n 5 [l0, l1] (zk_psh v []) (s2, z2, k + 0, c + 0)) (fun X s2 z2 => PX X s2 z2))) ∧
  (∀ (n : Nat) (l0 l1 : Option Value) (x : Int32) (r : List Value) (σ : zk_S) (sz k c : Nat), zk_run E (zk_VT E) M_X11_leavingNow (C_X11_leavingNow E) P PX K (n + 1) 5 [l0, l1] (.int x :: r) (σ, sz, k, c) = ((x = 0 → zk_run E (zk_VT E) M_X11_leavingNow (C_X11_leavingNow E) P PX K n 10 [l0, l1] r (σ, sz, k, c)) ∧ (¬ (x = 0) → zk_run E (zk_VT E) M_X11_leavingNow (C_X11_leavingNow E) P PX K n 8 [l0, l1] r (σ, sz, k, c)))) ∧
  (∀ (n : Nat) (l0 l1 : Option Value)  (r : List Value) (σ : zk_S) (sz k c : Nat), zk_run E (zk_VT E) M_X11_leavingNow (C_X11_leavingNow E) P PX K (n + 1) 8 [l0, l1] r (σ, sz, k, c) = zk_run E (zk_VT E) M_X11_leavingNow (C_X11_leavingNow E) P PX K n 9 [l0, l1] (.int ((-1)) :: r) (σ, sz, k, c)) ∧
  (∀ (n : Nat) (l0 l1 : Option Value) (x : Int32)  (σ : zk_S) (sz k c : Nat), zk_run E (zk_VT E) M_X11_leavingNow (C_X11_leavingNow E) P PX K (n + 1) 9 [l0, l1] [.int x] (σ, sz, k, c) = (zk_nok (some (.int)) x ∧ P (some (.int x)) σ sz ∧ k ≤ 0 ∧ c ≤ 0)) ∧
  (∀ (n : Nat) (l1 : Option Value) (y0 : Value) (r : List Value) (σ : zk_S) (sz k c : Nat), zk_run E (zk_VT E) M_X11_leavingNow (C_X11_leavingNow E) P PX K (n + 1) 10 [some y0, l1] r (σ, sz, k, c) = (zk_isr y0 ∧ zk_run E (zk_VT E) M_X11_leavingNow (C_X11_leavingNow E) P PX K n 11 [some y0, l1] (y0 :: r) (σ, sz, k, c))) ∧
  (∀ (n : Nat) (l0 l1 : Option Value) (a : Nat) (r : List Value) (σ : zk_S) (sz k c : Nat), zk_run E (zk_VT E) M_X11_leavingNow (C_X11_leavingNow E) P PX K (n + 1) 11 [l0, l1] (.ref a :: r) (σ, sz, k, c) = zk_fld (zk_view E σ a) [10] 30 (fun v => zk_run E (zk_VT E) M_X11_leavingNow (C_X11_leavingNow E) P PX K n 14 [l0, l1] (v :: r) (σ, sz, k, c))) ∧
  (∀ (n : Nat) (l0 : Option Value) (y1 : Int32) (r : List Value) (σ : zk_S) (sz k c : Nat), zk_run E (zk_VT E) M_X11_leavingNow (C_X11_leavingNow E) P PX K (n + 1) 14 [l0, some (.int y1)] r (σ, sz, k, c) = zk_run E (zk_VT E) M_X11_leavingNow (C_X11_leavingNow E) P PX K n 15 [l0, some (.int y1)] (.int y1 :: r) (σ, sz, k, c)) ∧
  (∀ (n : Nat) (l0 l1 : Option Value) (a : Nat) (i : Int32) (r : List Value) (σ : zk_S) (sz k c : Nat), zk_run E (zk_VT E) M_X11_leavingNow (C_X11_leavingNow E) P PX K (n + 1) 15 [l0, l1] (.int i :: .ref a :: r) (σ, sz, k, c) = zk_ild (zk_view E σ a) (zk_ar E 0) i (fun x => zk_run E (zk_VT E) M_X11_leavingNow (C_X11_leavingNow E) P PX K n 16 [l0, l1] (.int x :: r) (σ, sz, k, c))) ∧
  (∀ (n : Nat) (l0 l1 : Option Value)  (r : List Value) (σ : zk_S) (sz k c : Nat), zk_run E (zk_VT E) M_X11_leavingNow (C_X11_leavingNow E) P PX K (n + 1) 16 [l0, l1] r (σ, sz, k, c) = zk_run E (zk_VT E) M_X11_leavingNow (C_X11_leavingNow E) P PX K n 17 [l0, l1] (.int (2) :: r) (σ, sz, k, c)) ∧
  (∀ (n : Nat) (l0 l1 : Option Value) (x y : Int32) (r : List Value) (σ : zk_S) (sz k c : Nat), zk_run E (zk_VT E) M_X11_leavingNow (C_X11_leavingNow E) P PX K (n + 1) 17 [l0, l1] (.int y :: .int x :: r) (σ, sz, k, c) = (¬ y = 0 ∧ zk_run E (zk_VT E) M_X11_leavingNow (C_X11_leavingNow E) P PX K n 18 [l0, l1] (.int (x / y) :: r) (σ, sz, k, c))) ∧
  (∀ (n : Nat) (l0 l1 : Option Value)  (r : List Value) (σ : zk_S) (sz k c : Nat), zk_run E (zk_VT E) M_X11_leavingNow (C_X11_leavingNow E) P PX K (n + 1) 18 [l0, l1] r (σ, sz, k, c) = zk_run E (zk_VT E) M_X11_leavingNow (C_X11_leavingNow E) P PX K n 20 [l0, l1] (.int (40) :: r) (σ, sz, k, c)) ∧
  (∀ (n : Nat) (l0 l1 : Option Value) (x y : Int32) (r : List Value) (σ : zk_S) (sz k c : Nat), zk_run E (zk_VT E) M_X11_leavingNow (C_X11_leavingNow E) P PX K (n + 1) 20 [l0, l1] (.int y :: .int x :: r) (σ, sz, k, c) = ((y ≤ x → zk_run E (zk_VT E) M_X11_leavingNow (C_X11_leavingNow E) P PX K n 34 [l0, l1] r (σ, sz, k, c)) ∧ (¬ (y ≤ x) → zk_run E (zk_VT E) M_X11_leavingNow (C_X11_leavingNow E) P PX K n 23 [l0, l1] r (σ, sz, k, c)))) ∧
  (∀ (n : Nat) (l1 : Option Value) (y0 : Value) (r : List Value) (σ : zk_S) (sz k c : Nat), zk_run E (zk_VT E) M_X11_leavingNow (C_X11_leavingNow E) P PX K (n + 1) 23 [some y0, l1] r (σ, sz, k, c) = (zk_isr y0 ∧ zk_run E (zk_VT E) M_X11_leavingNow (C_X11_leavingNow E) P PX K n 24 [some y0, l1] (y0 :: r) (σ, sz, k, c))) ∧
  (∀ (n : Nat) (l0 l1 : Option Value) (a : Nat) (r : List Value) (σ : zk_S) (sz k c : Nat), zk_run E (zk_VT E) M_X11_leavingNow (C_X11_leavingNow E) P PX K (n + 1) 24 [l0, l1] (.ref a :: r) (σ, sz, k, c) = zk_fld (zk_view E σ a) [10] 30 (fun v => zk_run E (zk_VT E) M_X11_leavingNow (C_X11_leavingNow E) P PX K n 27 [l0, l1] (v :: r) (σ, sz, k, c))) ∧
  (∀ (n : Nat) (l0 : Option Value) (y1 : Int32) (r : List Value) (σ : zk_S) (sz k c : Nat), zk_run E (zk_VT E) M_X11_leavingNow (C_X11_leavingNow E) P PX K (n + 1) 27 [l0, some (.int y1)] r (σ, sz, k, c) = zk_run E (zk_VT E) M_X11_leavingNow (C_X11_leavingNow E) P PX K n 28 [l0, some (.int y1)] (.int y1 :: r) (σ, sz, k, c)) ∧
  (∀ (n : Nat) (l0 l1 : Option Value) (a : Nat) (i : Int32) (r : List Value) (σ : zk_S) (sz k c : Nat), zk_run E (zk_VT E) M_X11_leavingNow (C_X11_leavingNow E) P PX K (n + 1) 28 [l0, l1] (.int i :: .ref a :: r) (σ, sz, k, c) = zk_ild (zk_view E σ a) (zk_ar E 0) i (fun x => zk_run E (zk_VT E) M_X11_leavingNow (C_X11_leavingNow E) P PX K n 29 [l0, l1] (.int x :: r) (σ, sz, k, c))) ∧
  (∀ (n : Nat) (l0 l1 : Option Value)  (r : List Value) (σ : zk_S) (sz k c : Nat), zk_run E (zk_VT E) M_X11_leavingNow (C_X11_leavingNow E) P PX K (n + 1) 29 [l0, l1] r (σ, sz, k, c) = zk_run E (zk_VT E) M_X11_leavingNow (C_X11_leavingNow E) P PX K n 30 [l0, l1] (.int (2) :: r) (σ, sz, k, c)) ∧
  (∀ (n : Nat) (l0 l1 : Option Value) (x y : Int32) (r : List Value) (σ : zk_S) (sz k c : Nat), zk_run E (zk_VT E) M_X11_leavingNow (C_X11_leavingNow E) P PX K (n + 1) 30 [l0, l1] (.int y :: .int x :: r) (σ, sz, k, c) = (¬ y = 0 ∧ zk_run E (zk_VT E) M_X11_leavingNow (C_X11_leavingNow E) P PX K n 31 [l0, l1] (.int (x / y) :: r) (σ, sz, k, c))) ∧
  (∀ (n : Nat) (l0 l1 : Option Value)  (r : List Value) (σ : zk_S) (sz k c : Nat), zk_run E (zk_VT E) M_X11_leavingNow (C_X11_leavingNow E) P PX K (n + 1) 31 [l0, l1] r (σ, sz, k, c) = zk_run E (zk_VT E) M_X11_leavingNow (C_X11_leavingNow E) P PX K n 48 [l0, l1] r (σ, sz, k, c)) ∧
  (∀ (n : Nat) (l0 l1 : Option Value)  (r : List Value) (σ : zk_S) (sz k c : Nat), zk_run E (zk_VT E) M_X11_leavingNow (C_X11_leavingNow E) P PX K (n + 1) 34 [l0, l1] r (σ, sz, k, c) = zk_run E (zk_VT E) M_X11_leavingNow (C_X11_leavingNow E) P PX K n 36 [l0, l1] (.int (100) :: r) (σ, sz, k, c)) ∧
  (∀ (n : Nat) (l1 : Option Value) (y0 : Value) (r : List Value) (σ : zk_S) (sz k c : Nat), zk_run E (zk_VT E) M_X11_leavingNow (C_X11_leavingNow E) P PX K (n + 1) 36 [some y0, l1] r (σ, sz, k, c) = (zk_isr y0 ∧ zk_run E (zk_VT E) M_X11_leavingNow (C_X11_leavingNow E) P PX K n 37 [some y0, l1] (y0 :: r) (σ, sz, k, c))) ∧
  (∀ (n : Nat) (l0 l1 : Option Value) (a : Nat) (r : List Value) (σ : zk_S) (sz k c : Nat), zk_run E (zk_VT E) M_X11_leavingNow (C_X11_leavingNow E) P PX K (n + 1) 37 [l0, l1] (.ref a :: r) (σ, sz, k, c) = zk_fld (zk_view E σ a) [10] 30 (fun v => zk_run E (zk_VT E) M_X11_leavingNow (C_X11_leavingNow E) P PX K n 40 [l0, l1] (v :: r) (σ, sz, k, c))) ∧
  (∀ (n : Nat) (l0 : Option Value) (y1 : Int32) (r : List Value) (σ : zk_S) (sz k c : Nat), zk_run E (zk_VT E) M_X11_leavingNow (C_X11_leavingNow E) P PX K (n + 1) 40 [l0, some (.int y1)] r (σ, sz, k, c) = zk_run E (zk_VT E) M_X11_leavingNow (C_X11_leavingNow E) P PX K n 41 [l0, some (.int y1)] (.int y1 :: r) (σ, sz, k, c)) ∧
  (∀ (n : Nat) (l0 l1 : Option Value) (a : Nat) (i : Int32) (r : List Value) (σ : zk_S) (sz k c : Nat), zk_run E (zk_VT E) M_X11_leavingNow (C_X11_leavingNow E) P PX K (n + 1) 41 [l0, l1] (.int i :: .ref a :: r) (σ, sz, k, c) = zk_ild (zk_view E σ a) (zk_ar E 0) i (fun x => zk_run E (zk_VT E) M_X11_leavingNow (C_X11_leavingNow E) P PX K n 42 [l0, l1] (.int x :: r) (σ, sz, k, c))) ∧
  (∀ (n : Nat) (l0 l1 : Option Value)  (r : List Value) (σ : zk_S) (sz k c : Nat), zk_run E (zk_VT E) M_X11_leavingNow (C_X11_leavingNow E) P PX K (n + 1) 42 [l0, l1] r (σ, sz, k, c) = zk_run E (zk_VT E) M_X11_leavingNow (C_X11_leavingNow E) P PX K n 43 [l0, l1] (.int (2) :: r) (σ, sz, k, c)) ∧
  (∀ (n : Nat) (l0 l1 : Option Value) (x y : Int32) (r : List Value) (σ : zk_S) (sz k c : Nat), zk_run E (zk_VT E) M_X11_leavingNow (C_X11_leavingNow E) P PX K (n + 1) 43 [l0, l1] (.int y :: .int x :: r) (σ, sz, k, c) = (¬ y = 0 ∧ zk_run E (zk_VT E) M_X11_leavingNow (C_X11_leavingNow E) P PX K n 44 [l0, l1] (.int (x / y) :: r) (σ, sz, k, c))) ∧
  (∀ (n : Nat) (l0 l1 : Option Value) (x y : Int32) (r : List Value) (σ : zk_S) (sz k c : Nat), zk_run E (zk_VT E) M_X11_leavingNow (C_X11_leavingNow E) P PX K (n + 1) 44 [l0, l1] (.int y :: .int x :: r) (σ, sz, k, c) = zk_run E (zk_VT E) M_X11_leavingNow (C_X11_leavingNow E) P PX K n 45 [l0, l1] (.int (x + y) :: r) (σ, sz, k, c)) ∧
  (∀ (n : Nat) (l0 l1 : Option Value)  (r : List Value) (σ : zk_S) (sz k c : Nat), zk_run E (zk_VT E) M_X11_leavingNow (C_X11_leavingNow E) P PX K (n + 1) 45 [l0, l1] r (σ, sz, k, c) = zk_run E (zk_VT E) M_X11_leavingNow (C_X11_leavingNow E) P PX K n 47 [l0, l1] (.int (40) :: r) (σ, sz, k, c)) ∧
  (∀ (n : Nat) (l0 l1 : Option Value) (x y : Int32) (r : List Value) (σ : zk_S) (sz k c : Nat), zk_run E (zk_VT E) M_X11_leavingNow (C_X11_leavingNow E) P PX K (n + 1) 47 [l0, l1] (.int y :: .int x :: r) (σ, sz, k, c) = zk_run E (zk_VT E) M_X11_leavingNow (C_X11_leavingNow E) P PX K n 48 [l0, l1] (.int (x - y) :: r) (σ, sz, k, c)) ∧
  (∀ (n : Nat) (l0 l1 : Option Value) (x : Int32)  (σ : zk_S) (sz k c : Nat), zk_run E (zk_VT E) M_X11_leavingNow (C_X11_leavingNow E) P PX K (n + 1) 48 [l0, l1] [.int x] (σ, sz, k, c) = (zk_nok (some (.int)) x ∧ P (some (.int x)) σ sz ∧ k ≤ 0 ∧ c ≤ 0)) ∧
  (∀ (n : Nat) (l0 l1 : Option Value) (r : List Value) (w : zk_W zk_S), zk_go E (zk_VT E) M_X11_leavingNow (C_X11_leavingNow E) P PX K n 0 [l0, l1] r w = zk_run E (zk_VT E) M_X11_leavingNow (C_X11_leavingNow E) P PX K (n + 1) 0 [l0, l1] r w) := ⟨by intros; rfl, by intros; rfl, by intros; rfl, by intros; rfl, by intros; rfl, by intros; rfl, by intros; rfl, by intros; rfl, by intros; rfl, by intros; rfl, by intros; rfl, by intros; rfl, by intros; rfl, by intros; rfl, by intros; rfl, by intros; rfl, by intros; rfl, by intros; rfl, by intros; rfl, by intros; rfl, by intros; rfl, by intros; rfl, by intros; rfl, by intros; rfl, by intros; rfl, by intros; rfl, by intros; rfl, by intros; rfl, by intros; rfl, by intros; rfl, by intros; rfl, by intros; rfl, by intros; rfl⟩
theorem vc_X11_leavingNow (E : zk_E) : zk_VC E (zk_VT E) M_X11_leavingNow (C_X11_leavingNow E) 2 (sp_X11_leavingNow E) := by
  intro av σ sz P PX h
  obtain ⟨J, N, Q, O, U⟩ := σ
  unfold sp_X11_leavingNow at h
  split at h
  case h_2 => exact h.elim
  rename_i a0 r
  obtain ⟨rfl, h⟩ := h
  refine ⟨Nat.le_of_ble_eq_true rfl, fun G hG => ?_⟩
  change G 0 [some (.ref (zk_ad E 22)), some (.int r)] [] ((J, N, Q, O, U), sz, 0, 0)
  try dsimp only at h
  obtain ⟨hms, hsv, ⟨j, hj, rfl⟩, h⟩ := h
  have hj20 : j < 20 := Nat.lt_of_lt_of_le hj hms.1.2
  have hin : vp_in (nI j) 20 := n_in hj20 (by decide)
  have hcl : (nI j).toNatClampNeg = j := n_cl (by omega)
  rw [hcl] at h
  have hx3 : ∃ j', j' < m_nr J ∧ nI j = nI j' := ⟨j, hj, rfl⟩
  have h48 := (hsv.2.2 j hj).1
  have hl := lea_le J N j
  unfold a_leav at h
  by_cases q : lea J N j = 100
  · rw [if_pos q] at h
    have ql : a_isLost J N j = true := decide_eq_true q
    (refine hG 900 _ _ _ _ ?_; simp only [r_X11_leavingNow, zk_kl_none, zk_kl_int, zk_kl_ref, zk_kl_null, zk_kl_long, zk_kl_rf, zk_isr_ref, zk_isr_null, zk_isr_rf9, zk_c1_int, zk_c1_ref, zk_c1_null, zk_c1_rf, zk_psh_some, zk_psh_none, zk_nok_int, zk_nok_bool0, zk_nok_bool1, zk_nok_b, zk_fok_0, zk_fok_1, zk_fok_2, zk_fok_n, zk_fok_rf, zb_f, zb_p, zb_i, zb_a, zb_s, zk_nth_0, zk_nth_s, zk_fld_o, zk_put_o, zk_rv_eq, zk_ri_eq, zk_is_o, List.mem_cons, List.not_mem_nil, or_false, false_or, or_true, true_or, and_true, true_and, not_false_iff, not_true_eq_false, true_implies, false_implies, imp_self, implies_true, forall_const, zk_lit, zk_uj_ap, zk_un_ap, zk_un_un, zk_uj_uj, Nat.reduceEqDiff, eq_self, zk_bq, Bool.true_or, Bool.false_or, Nat.le_refl, Nat.zero_add, Nat.add_zero, Nat.reduceAdd, Nat.reduceLeDiff, Nat.le_zero_eq, and_self, and_false, false_and, ite_true, ite_false, Nat.zero_le, List.length_cons, List.length_nil, Option.some.injEq, forall_eq', reduceCtorEq, spe_X11_isLostNow, hms, hsv, hx3, hcl, ql, zk_b0, Bool.true_eq_false])
    exact h
  · rw [if_neg q] at h
    have ql : a_isLost J N j = false := decide_eq_false q
    rw [show g_lv (lea J N j) = nI (lea J N j) from if_neg q] at h48
    have h1 : nI (lea J N j) / 2 = nI (lea J N j / 2) := n_div2 (by omega)
    by_cases k40 : lea J N j / 2 < 40
    · have c40 : ¬ (40 : Int32) ≤ nI (lea J N j / 2) := (nI_ge (b := 40) k40 (by decide) : ¬ nI 40 ≤ nI (lea J N j / 2))
      rw [if_pos k40] at h
      (refine hG 900 _ _ _ _ ?_; simp only [r_X11_leavingNow, zk_kl_none, zk_kl_int, zk_kl_ref, zk_kl_null, zk_kl_long, zk_kl_rf, zk_isr_ref, zk_isr_null, zk_isr_rf9, zk_c1_int, zk_c1_ref, zk_c1_null, zk_c1_rf, zk_psh_some, zk_psh_none, zk_nok_int, zk_nok_bool0, zk_nok_bool1, zk_nok_b, zk_fok_0, zk_fok_1, zk_fok_2, zk_fok_n, zk_fok_rf, zb_f, zb_p, zb_i, zb_a, zb_s, zk_nth_0, zk_nth_s, zk_fld_o, zk_put_o, zk_rv_eq, zk_ri_eq, zk_is_o, List.mem_cons, List.not_mem_nil, or_false, false_or, or_true, true_or, and_true, true_and, not_false_iff, not_true_eq_false, true_implies, false_implies, imp_self, implies_true, forall_const, zk_lit, zk_uj_ap, zk_un_ap, zk_un_un, zk_uj_uj, Nat.reduceEqDiff, eq_self, zk_bq, Bool.true_or, Bool.false_or, Nat.le_refl, Nat.zero_add, Nat.add_zero, Nat.reduceAdd, Nat.reduceLeDiff, Nat.le_zero_eq, and_self, and_false, false_and, ite_true, ite_false, Nat.zero_le, List.length_cons, List.length_nil, Option.some.injEq, forall_eq', reduceCtorEq, spe_X11_isLostNow, hms, hsv, hx3, hcl, hin, ql, zk_b0, h48, h1, c40])
      exact h
    · have c40 : (40 : Int32) ≤ nI (lea J N j / 2) := (nI_le (a := 40) (by omega) (by omega) : nI 40 ≤ nI (lea J N j / 2))
      rw [if_neg k40] at h
      have e1 : (100 : Int32) + nI (lea J N j / 2) - 40 = nI (60 + lea J N j / 2) := by
        rw [show (100 : Int32) = nI 100 from rfl, n_add, show (40 : Int32) = nI 40 from rfl, n_sub (by omega)]
        congr 1
        omega
      (refine hG 900 _ _ _ _ ?_; simp only [r_X11_leavingNow, zk_kl_none, zk_kl_int, zk_kl_ref, zk_kl_null, zk_kl_long, zk_kl_rf, zk_isr_ref, zk_isr_null, zk_isr_rf9, zk_c1_int, zk_c1_ref, zk_c1_null, zk_c1_rf, zk_psh_some, zk_psh_none, zk_nok_int, zk_nok_bool0, zk_nok_bool1, zk_nok_b, zk_fok_0, zk_fok_1, zk_fok_2, zk_fok_n, zk_fok_rf, zb_f, zb_p, zb_i, zb_a, zb_s, zk_nth_0, zk_nth_s, zk_fld_o, zk_put_o, zk_rv_eq, zk_ri_eq, zk_is_o, List.mem_cons, List.not_mem_nil, or_false, false_or, or_true, true_or, and_true, true_and, not_false_iff, not_true_eq_false, true_implies, false_implies, imp_self, implies_true, forall_const, zk_lit, zk_uj_ap, zk_un_ap, zk_un_un, zk_uj_uj, Nat.reduceEqDiff, eq_self, zk_bq, Bool.true_or, Bool.false_or, Nat.le_refl, Nat.zero_add, Nat.add_zero, Nat.reduceAdd, Nat.reduceLeDiff, Nat.le_zero_eq, and_self, and_false, false_and, ite_true, ite_false, Nat.zero_le, List.length_cons, List.length_nil, Option.some.injEq, forall_eq', reduceCtorEq, spe_X11_isLostNow, hms, hsv, hx3, hcl, hin, ql, zk_b0, h48, h1, c40, e1])
      exact h
theorem ct_X11_leavingNow {l : Launch} (hl : l.stackTraces = false) (E : zk_E) : zk_C l E (zk_VT E) yX11_leavingNow cX11_leavingNow 2 (some (.int)) rm_X11_leavingNow (sp_X11_leavingNow E) := by
  refine zk_meth (M := M_X11_leavingNow) (C := C_X11_leavingNow E) hl (by decide +kernel) rfl (fun _ _ => rfl) (zk_VT_ok E) MO_X11_leavingNow TO_X11_leavingNow THo_X11_leavingNow ?_ (vc_X11_leavingNow E)
  exact fun p e s m args below meth c X pc n mc ms sp2 h => by
    have h2 := zk_lka_mem h
    simp only [List.mem_cons, List.not_mem_nil, or_false, Prod.mk.injEq] at h2
    rcases h2 with ⟨rfl, rfl, rfl, rfl, rfl⟩
    exact zk_coV (idx := 230) X (ct_X11_isLostNow hl E) (List.forall_mem_cons.mpr ⟨zk_wi 1273 (by decide +kernel) rfl, List.forall_mem_cons.mpr ⟨zk_wi 1275 (by decide +kernel) rfl, List.forall_mem_cons.mpr ⟨zk_wp 35 (by decide +kernel) rfl, List.forall_mem_cons.mpr ⟨zk_wi 6 (by decide +kernel) rfl, List.forall_mem_cons.mpr ⟨zk_wi 1276 (by decide +kernel) rfl, fun _ h => absurd h List.not_mem_nil⟩⟩⟩⟩⟩) (fun ci h => by
      have h := Nat.eq_of_beq_eq_true h
      subst h
      exact ⟨_, _, rfl⟩) (by decide +kernel) ⟨by decide, by decide, by decide +kernel⟩ ⟨by decide, by decide⟩
def sp_X11_middleNow (E : zk_E) : zk_Sp zk_S := fun av σ sz P PX => match av with
  | [.ref a, .int r] => a = zk_ad E 22 ∧ MS σ.1 ∧ SV σ.1 σ.2.1 ∧ (∃ j, j < m_nr σ.1 ∧ r = nI j) ∧ P (some (.int (a_mid σ.1 σ.2.1 r.toNatClampNeg))) σ sz
  | _ => False
theorem spe_X11_middleNow (E : zk_E) (a : Nat) (r : Int32) (σ : zk_S) (sz : Nat) (P : zk_P zk_S) (PX : zk_X zk_S) : sp_X11_middleNow E [.ref a, .int r] σ sz P PX = (a = zk_ad E 22 ∧ MS σ.1 ∧ SV σ.1 σ.2.1 ∧ (∃ j, j < m_nr σ.1 ∧ r = nI j) ∧ P (some (.int (a_mid σ.1 σ.2.1 r.toNatClampNeg))) σ sz) := propext Iff.rfl
def C_X11_middleNow (E : zk_E) : zk_Cl zk_S := zk_lka [(2, 2, 0, 0, zk_rv (zk_VT E) (fun ci => Nat.beq ci 10) (sp_X11_isLostNow E))]
theorem r_X11_middleNow (E : zk_E) (P : zk_P zk_S) (PX : zk_X zk_S) (K : Nat → zk_L → List Value → zk_W zk_S → Prop) : (∀ (n : Nat) (l1 : Option Value) (y0 : Value) (r : List Value) (σ : zk_S) (sz k c : Nat), zk_run E (zk_VT E) M_X11_middleNow (C_X11_middleNow E) P PX K (n + 1) 0 [some y0, l1] r (σ, sz, k, c) = (zk_isr y0 ∧ zk_run E (zk_VT E) M_X11_middleNow (C_X11_middleNow E) P PX K n 1 [some y0, l1] (y0 :: r) (σ, sz, k, c))) ∧
  (∀ (n : Nat) (l0 : Option Value) (y1 : Int32) (r : List Value) (σ : zk_S) (sz k c : Nat), zk_run E (zk_VT E) M_X11_middleNow (C_X11_middleNow E) P PX K (n + 1) 1 [l0, some (.int y1)] r (σ, sz, k, c) = zk_run E (zk_VT E) M_X11_middleNow (C_X11_middleNow E) P PX K n 2 [l0, some (.int y1)] (.int y1 :: r) (σ, sz, k, c)) ∧
  (∀ (n : Nat) (l0 l1 : Option Value) (v0 : Value) (v1 : Value)  (σ : zk_S) (sz k c : Nat), zk_run E (zk_VT E) M_X11_middleNow (C_X11_middleNow E) P PX K (n + 1) 2 [l0, l1] [v0, v1] (σ, sz, k, c) = (k + 0 ≤ 0 ∧ c + 0 ≤ 0 ∧ (zk_rv (zk_VT E) (fun ci => Nat.beq ci 10) (sp_X11_isLostNow E)) [v1, v0] σ sz (fun v s2 z2 => zk_run E (zk_VT E) M_X11_middleNow (C_X11_middleNow E) P PX K n 5 [l0, l1] (zk_psh v []) (s2, z2, k + 0, c + 0)) (fun X s2 z2 => PX X s2 z2))) ∧
  (∀ (n : Nat) (l0 l1 : Option Value) (x : Int32) (r : List Value) (σ : zk_S) (sz k c : Nat), zk_run E (zk_VT E) M_X11_middleNow (C_X11_middleNow E) P PX K (n + 1) 5 [l0, l1] (.int x :: r) (σ, sz, k, c) = ((x = 0 → zk_run E (zk_VT E) M_X11_middleNow (C_X11_middleNow E) P PX K n 12 [l0, l1] r (σ, sz, k, c)) ∧ (¬ (x = 0) → zk_run E (zk_VT E) M_X11_middleNow (C_X11_middleNow E) P PX K n 8 [l0, l1] r (σ, sz, k, c)))) ∧
  (∀ (n : Nat) (l0 l1 : Option Value)  (r : List Value) (σ : zk_S) (sz k c : Nat), zk_run E (zk_VT E) M_X11_middleNow (C_X11_middleNow E) P PX K (n + 1) 8 [l0, l1] r (σ, sz, k, c) = zk_run E (zk_VT E) M_X11_middleNow (C_X11_middleNow E) P PX K n 9 [l0, l1] (.int ((-1)) :: r) (σ, sz, k, c)) ∧
  (∀ (n : Nat) (l0 l1 : Option Value)  (r : List Value) (σ : zk_S) (sz k c : Nat), zk_run E (zk_VT E) M_X11_middleNow (C_X11_middleNow E) P PX K (n + 1) 9 [l0, l1] r (σ, sz, k, c) = zk_run E (zk_VT E) M_X11_middleNow (C_X11_middleNow E) P PX K n 18 [l0, l1] r (σ, sz, k, c)) ∧
  (∀ (n : Nat) (l1 : Option Value) (y0 : Value) (r : List Value) (σ : zk_S) (sz k c : Nat), zk_run E (zk_VT E) M_X11_middleNow (C_X11_middleNow E) P PX K (n + 1) 12 [some y0, l1] r (σ, sz, k, c) = (zk_isr y0 ∧ zk_run E (zk_VT E) M_X11_middleNow (C_X11_middleNow E) P PX K n 13 [some y0, l1] (y0 :: r) (σ, sz, k, c))) ∧
  (∀ (n : Nat) (l0 l1 : Option Value) (a : Nat) (r : List Value) (σ : zk_S) (sz k c : Nat), zk_run E (zk_VT E) M_X11_middleNow (C_X11_middleNow E) P PX K (n + 1) 13 [l0, l1] (.ref a :: r) (σ, sz, k, c) = zk_fld (zk_view E σ a) [10] 31 (fun v => zk_run E (zk_VT E) M_X11_middleNow (C_X11_middleNow E) P PX K n 16 [l0, l1] (v :: r) (σ, sz, k, c))) ∧
  (∀ (n : Nat) (l0 : Option Value) (y1 : Int32) (r : List Value) (σ : zk_S) (sz k c : Nat), zk_run E (zk_VT E) M_X11_middleNow (C_X11_middleNow E) P PX K (n + 1) 16 [l0, some (.int y1)] r (σ, sz, k, c) = zk_run E (zk_VT E) M_X11_middleNow (C_X11_middleNow E) P PX K n 17 [l0, some (.int y1)] (.int y1 :: r) (σ, sz, k, c)) ∧
  (∀ (n : Nat) (l0 l1 : Option Value) (a : Nat) (i : Int32) (r : List Value) (σ : zk_S) (sz k c : Nat), zk_run E (zk_VT E) M_X11_middleNow (C_X11_middleNow E) P PX K (n + 1) 17 [l0, l1] (.int i :: .ref a :: r) (σ, sz, k, c) = zk_ild (zk_view E σ a) (zk_ar E 0) i (fun x => zk_run E (zk_VT E) M_X11_middleNow (C_X11_middleNow E) P PX K n 18 [l0, l1] (.int x :: r) (σ, sz, k, c))) ∧
  (∀ (n : Nat) (l0 l1 : Option Value) (x : Int32)  (σ : zk_S) (sz k c : Nat), zk_run E (zk_VT E) M_X11_middleNow (C_X11_middleNow E) P PX K (n + 1) 18 [l0, l1] [.int x] (σ, sz, k, c) = (zk_nok (some (.int)) x ∧ P (some (.int x)) σ sz ∧ k ≤ 0 ∧ c ≤ 0)) ∧
  (∀ (n : Nat) (l0 l1 : Option Value) (r : List Value) (w : zk_W zk_S), zk_go E (zk_VT E) M_X11_middleNow (C_X11_middleNow E) P PX K n 0 [l0, l1] r w = zk_run E (zk_VT E) M_X11_middleNow (C_X11_middleNow E) P PX K (n + 1) 0 [l0, l1] r w) := ⟨by intros; rfl, by intros; rfl, by intros; rfl, by intros; rfl, by intros; rfl, by intros; rfl, by intros; rfl, by intros; rfl, by intros; rfl, by intros; rfl, by intros; rfl, by intros; rfl⟩
theorem vc_X11_middleNow (E : zk_E) : zk_VC E (zk_VT E) M_X11_middleNow (C_X11_middleNow E) 2 (sp_X11_middleNow E) := by
  intro av σ sz P PX h
  obtain ⟨J, N, Q, O, U⟩ := σ
  unfold sp_X11_middleNow at h
  split at h
  case h_2 => exact h.elim
  rename_i a0 r
  obtain ⟨rfl, h⟩ := h
  refine ⟨Nat.le_of_ble_eq_true rfl, fun G hG => ?_⟩
  change G 0 [some (.ref (zk_ad E 22)), some (.int r)] [] ((J, N, Q, O, U), sz, 0, 0)
  try dsimp only at h
  obtain ⟨hms, hsv, ⟨j, hj, rfl⟩, h⟩ := h
  have hj20 : j < 20 := Nat.lt_of_lt_of_le hj hms.1.2
  have hin : vp_in (nI j) 20 := n_in hj20 (by decide)
  have hcl : (nI j).toNatClampNeg = j := n_cl (by omega)
  rw [hcl] at h
  have hx3 : ∃ j', j' < m_nr J ∧ nI j = nI j' := ⟨j, hj, rfl⟩
  have h49 := (hsv.2.2 j hj).2.1
  unfold a_mid at h
  by_cases q : lea J N j = 100
  · rw [if_pos q] at h
    have ql : a_isLost J N j = true := decide_eq_true q
    (refine hG 900 _ _ _ _ ?_; simp only [r_X11_middleNow, zk_kl_none, zk_kl_int, zk_kl_ref, zk_kl_null, zk_kl_long, zk_kl_rf, zk_isr_ref, zk_isr_null, zk_isr_rf9, zk_c1_int, zk_c1_ref, zk_c1_null, zk_c1_rf, zk_psh_some, zk_psh_none, zk_nok_int, zk_nok_bool0, zk_nok_bool1, zk_nok_b, zk_fok_0, zk_fok_1, zk_fok_2, zk_fok_n, zk_fok_rf, zb_f, zb_p, zb_i, zb_a, zb_s, zk_nth_0, zk_nth_s, zk_fld_o, zk_put_o, zk_rv_eq, zk_ri_eq, zk_is_o, List.mem_cons, List.not_mem_nil, or_false, false_or, or_true, true_or, and_true, true_and, not_false_iff, not_true_eq_false, true_implies, false_implies, imp_self, implies_true, forall_const, zk_lit, zk_uj_ap, zk_un_ap, zk_un_un, zk_uj_uj, Nat.reduceEqDiff, eq_self, zk_bq, Bool.true_or, Bool.false_or, Nat.le_refl, Nat.zero_add, Nat.add_zero, Nat.reduceAdd, Nat.reduceLeDiff, Nat.le_zero_eq, and_self, and_false, false_and, ite_true, ite_false, Nat.zero_le, List.length_cons, List.length_nil, Option.some.injEq, forall_eq', reduceCtorEq, spe_X11_isLostNow, hms, hsv, hx3, hcl, ql, zk_b0, Bool.true_eq_false])
    exact h
  · rw [if_neg q] at h
    have ql : a_isLost J N j = false := decide_eq_false q
    (refine hG 900 _ _ _ _ ?_; simp only [r_X11_middleNow, zk_kl_none, zk_kl_int, zk_kl_ref, zk_kl_null, zk_kl_long, zk_kl_rf, zk_isr_ref, zk_isr_null, zk_isr_rf9, zk_c1_int, zk_c1_ref, zk_c1_null, zk_c1_rf, zk_psh_some, zk_psh_none, zk_nok_int, zk_nok_bool0, zk_nok_bool1, zk_nok_b, zk_fok_0, zk_fok_1, zk_fok_2, zk_fok_n, zk_fok_rf, zb_f, zb_p, zb_i, zb_a, zb_s, zk_nth_0, zk_nth_s, zk_fld_o, zk_put_o, zk_rv_eq, zk_ri_eq, zk_is_o, List.mem_cons, List.not_mem_nil, or_false, false_or, or_true, true_or, and_true, true_and, not_false_iff, not_true_eq_false, true_implies, false_implies, imp_self, implies_true, forall_const, zk_lit, zk_uj_ap, zk_un_ap, zk_un_un, zk_uj_uj, Nat.reduceEqDiff, eq_self, zk_bq, Bool.true_or, Bool.false_or, Nat.le_refl, Nat.zero_add, Nat.add_zero, Nat.reduceAdd, Nat.reduceLeDiff, Nat.le_zero_eq, and_self, and_false, false_and, ite_true, ite_false, Nat.zero_le, List.length_cons, List.length_nil, Option.some.injEq, forall_eq', reduceCtorEq, spe_X11_isLostNow, hms, hsv, hx3, hcl, hin, ql, zk_b0, h49])
    exact h
theorem ct_X11_middleNow {l : Launch} (hl : l.stackTraces = false) (E : zk_E) : zk_C l E (zk_VT E) yX11_middleNow cX11_middleNow 2 (some (.int)) rm_X11_middleNow (sp_X11_middleNow E) := by
  refine zk_meth (M := M_X11_middleNow) (C := C_X11_middleNow E) hl (by decide +kernel) rfl (fun _ _ => rfl) (zk_VT_ok E) MO_X11_middleNow TO_X11_middleNow THo_X11_middleNow ?_ (vc_X11_middleNow E)
  exact fun p e s m args below meth c X pc n mc ms sp2 h => by
    have h2 := zk_lka_mem h
    simp only [List.mem_cons, List.not_mem_nil, or_false, Prod.mk.injEq] at h2
    rcases h2 with ⟨rfl, rfl, rfl, rfl, rfl⟩
    exact zk_coV (idx := 230) X (ct_X11_isLostNow hl E) (List.forall_mem_cons.mpr ⟨zk_wi 1273 (by decide +kernel) rfl, List.forall_mem_cons.mpr ⟨zk_wi 1275 (by decide +kernel) rfl, List.forall_mem_cons.mpr ⟨zk_wp 35 (by decide +kernel) rfl, List.forall_mem_cons.mpr ⟨zk_wi 6 (by decide +kernel) rfl, List.forall_mem_cons.mpr ⟨zk_wi 1276 (by decide +kernel) rfl, fun _ h => absurd h List.not_mem_nil⟩⟩⟩⟩⟩) (fun ci h => by
      have h := Nat.eq_of_beq_eq_true h
      subst h
      exact ⟨_, _, rfl⟩) (by decide +kernel) ⟨by decide, by decide, by decide +kernel⟩ ⟨by decide, by decide⟩
def sp_X11_isSolved (E : zk_E) : zk_Sp zk_S := fun av σ sz P PX => match av with
  | [.ref a, .int r] => a = zk_ad E 22 ∧ MI σ.1 σ.2.1 ∧ RD σ.1 σ.2.1 r (fun j => ∀ J2 N2, QE σ.1 J2 σ.2.1 N2 0 → SV J2 N2 → P (some (.int 1)) (J2, N2, σ.2.2) sz) (∀ J2 N2, QE σ.1 J2 σ.2.1 N2 1 → P (some (.int 0)) (J2, N2, σ.2.2) sz)
  | _ => False
theorem spe_X11_isSolved (E : zk_E) (a : Nat) (r : Int32) (σ : zk_S) (sz : Nat) (P : zk_P zk_S) (PX : zk_X zk_S) : sp_X11_isSolved E [.ref a, .int r] σ sz P PX = (a = zk_ad E 22 ∧ MI σ.1 σ.2.1 ∧ RD σ.1 σ.2.1 r (fun j => ∀ J2 N2, QE σ.1 J2 σ.2.1 N2 0 → SV J2 N2 → P (some (.int 1)) (J2, N2, σ.2.2) sz) (∀ J2 N2, QE σ.1 J2 σ.2.1 N2 1 → P (some (.int 0)) (J2, N2, σ.2.2) sz)) := propext Iff.rfl
def C_X11_isSolved (E : zk_E) : zk_Cl zk_S := zk_lka [(3, 2, 0, 0, zk_rv (zk_VT E) (fun ci => Nat.beq ci 10) (sp_X11_isRoom E)), (25, 1, 0, 0, zk_rv (zk_VT E) (fun ci => Nat.beq ci 10) (sp_X11_solve E))]
theorem r_X11_isSolved (E : zk_E) (P : zk_P zk_S) (PX : zk_X zk_S) (K : Nat → zk_L → List Value → zk_W zk_S → Prop) : (∀ (n : Nat) (l1 : Option Value) (y0 : Value) (r : List Value) (σ : zk_S) (sz k c : Nat), zk_run E (zk_VT E) M_X11_isSolved (C_X11_isSolved E) P PX K (n + 1) 0 [some y0, l1] r (σ, sz, k, c) = (zk_isr y0 ∧ zk_run E (zk_VT E) M_X11_isSolved (C_X11_isSolved E) P PX K n 1 [some y0, l1] (y0 :: r) (σ, sz, k, c))) ∧
  (∀ (n : Nat) (l1 : Option Value) (y0 : Value) (r : List Value) (σ : zk_S) (sz k c : Nat), zk_run E (zk_VT E) M_X11_isSolved (C_X11_isSolved E) P PX K (n + 1) 1 [some y0, l1] r (σ, sz, k, c) = (zk_isr y0 ∧ zk_run E (zk_VT E) M_X11_isSolved (C_X11_isSolved E) P PX K n 2 [some y0, l1] (y0 :: r) (σ, sz, k, c))) ∧
  (∀ (n : Nat) (l0 : Option Value) (y1 : Int32) (r : List Value) (σ : zk_S) (sz k c : Nat), zk_run E (zk_VT E) M_X11_isSolved (C_X11_isSolved E) P PX K (n + 1) 2 [l0, some (.int y1)] r (σ, sz, k, c) = zk_run E (zk_VT E) M_X11_isSolved (C_X11_isSolved E) P PX K n 3 [l0, some (.int y1)] (.int y1 :: r) (σ, sz, k, c)) ∧
  (∀ (n : Nat) (l0 l1 : Option Value) (v0 : Value) (v1 : Value) (v2 : Value)  (σ : zk_S) (sz k c : Nat), zk_run E (zk_VT E) M_X11_isSolved (C_X11_isSolved E) P PX K (n + 1) 3 [l0, l1] [v0, v1, v2] (σ, sz, k, c) = (k + 0 ≤ 0 ∧ c + 0 ≤ 0 ∧ (zk_rv (zk_VT E) (fun ci => Nat.beq ci 10) (sp_X11_isRoom E)) [v1, v0] σ sz (fun v s2 z2 => zk_run E (zk_VT E) M_X11_isSolved (C_X11_isSolved E) P PX K n 6 [l0, l1] (zk_psh v [v2]) (s2, z2, k + 0, c + 0)) (fun X s2 z2 => PX X s2 z2))) ∧
  (∀ (n : Nat) (l0 l1 : Option Value) (x : Int32) (r : List Value) (σ : zk_S) (sz k c : Nat), zk_run E (zk_VT E) M_X11_isSolved (C_X11_isSolved E) P PX K (n + 1) 6 [l0, l1] (.int x :: r) (σ, sz, k, c) = ((x = 0 → zk_run E (zk_VT E) M_X11_isSolved (C_X11_isSolved E) P PX K n 13 [l0, l1] r (σ, sz, k, c)) ∧ (¬ (x = 0) → zk_run E (zk_VT E) M_X11_isSolved (C_X11_isSolved E) P PX K n 9 [l0, l1] r (σ, sz, k, c)))) ∧
  (∀ (n : Nat) (l0 l1 : Option Value)  (r : List Value) (σ : zk_S) (sz k c : Nat), zk_run E (zk_VT E) M_X11_isSolved (C_X11_isSolved E) P PX K (n + 1) 9 [l0, l1] r (σ, sz, k, c) = zk_run E (zk_VT E) M_X11_isSolved (C_X11_isSolved E) P PX K n 10 [l0, l1] (.int (0) :: r) (σ, sz, k, c)) ∧
  (∀ (n : Nat) (l0 l1 : Option Value)  (r : List Value) (σ : zk_S) (sz k c : Nat), zk_run E (zk_VT E) M_X11_isSolved (C_X11_isSolved E) P PX K (n + 1) 10 [l0, l1] r (σ, sz, k, c) = zk_run E (zk_VT E) M_X11_isSolved (C_X11_isSolved E) P PX K n 14 [l0, l1] r (σ, sz, k, c)) ∧
  (∀ (n : Nat) (l0 l1 : Option Value)  (r : List Value) (σ : zk_S) (sz k c : Nat), zk_run E (zk_VT E) M_X11_isSolved (C_X11_isSolved E) P PX K (n + 1) 13 [l0, l1] r (σ, sz, k, c) = zk_run E (zk_VT E) M_X11_isSolved (C_X11_isSolved E) P PX K n 14 [l0, l1] (.int (1) :: r) (σ, sz, k, c)) ∧
  (∀ (n : Nat) (l0 l1 : Option Value) (a : Nat) (v : Value) (r : List Value) (σ : zk_S) (sz k c : Nat), zk_run E (zk_VT E) M_X11_isSolved (C_X11_isSolved E) P PX K (n + 1) 14 [l0, l1] (v :: .ref a :: r) (σ, sz, k, c) = zk_put (zk_view E σ a) [10] 0 0 v (zk_pfok E σ a 0 v ∧ zk_run E (zk_VT E) M_X11_isSolved (C_X11_isSolved E) P PX K n 17 [l0, l1] r (zk_pf E σ a 0 v, sz, k, c))) ∧
  (∀ (n : Nat) (l1 : Option Value) (y0 : Value) (r : List Value) (σ : zk_S) (sz k c : Nat), zk_run E (zk_VT E) M_X11_isSolved (C_X11_isSolved E) P PX K (n + 1) 17 [some y0, l1] r (σ, sz, k, c) = (zk_isr y0 ∧ zk_run E (zk_VT E) M_X11_isSolved (C_X11_isSolved E) P PX K n 18 [some y0, l1] (y0 :: r) (σ, sz, k, c))) ∧
  (∀ (n : Nat) (l0 l1 : Option Value) (a : Nat) (r : List Value) (σ : zk_S) (sz k c : Nat), zk_run E (zk_VT E) M_X11_isSolved (C_X11_isSolved E) P PX K (n + 1) 18 [l0, l1] (.ref a :: r) (σ, sz, k, c) = zk_fld (zk_view E σ a) [10] 0 (fun v => zk_run E (zk_VT E) M_X11_isSolved (C_X11_isSolved E) P PX K n 21 [l0, l1] (v :: r) (σ, sz, k, c))) ∧
  (∀ (n : Nat) (l0 l1 : Option Value) (x : Int32) (r : List Value) (σ : zk_S) (sz k c : Nat), zk_run E (zk_VT E) M_X11_isSolved (C_X11_isSolved E) P PX K (n + 1) 21 [l0, l1] (.int x :: r) (σ, sz, k, c) = ((¬ x = 0 → zk_run E (zk_VT E) M_X11_isSolved (C_X11_isSolved E) P PX K n 28 [l0, l1] r (σ, sz, k, c)) ∧ (¬ (¬ x = 0) → zk_run E (zk_VT E) M_X11_isSolved (C_X11_isSolved E) P PX K n 24 [l0, l1] r (σ, sz, k, c)))) ∧
  (∀ (n : Nat) (l1 : Option Value) (y0 : Value) (r : List Value) (σ : zk_S) (sz k c : Nat), zk_run E (zk_VT E) M_X11_isSolved (C_X11_isSolved E) P PX K (n + 1) 24 [some y0, l1] r (σ, sz, k, c) = (zk_isr y0 ∧ zk_run E (zk_VT E) M_X11_isSolved (C_X11_isSolved E) P PX K n 25 [some y0, l1] (y0 :: r) (σ, sz, k, c))) ∧
  (∀ (n : Nat) (l0 l1 : Option Value) (v0 : Value)  (σ : zk_S) (sz k c : Nat), zk_run E (zk_VT E) M_X11_isSolved (C_X11_isSolved E) P PX K (n + 1) 25 [l0, l1] [v0] (σ, sz, k, c) = (k + 0 ≤ 0 ∧ c + 0 ≤ 0 ∧ (zk_rv (zk_VT E) (fun ci => Nat.beq ci 10) (sp_X11_solve E)) [v0] σ sz (fun v s2 z2 => zk_run E (zk_VT E) M_X11_isSolved (C_X11_isSolved E) P PX K n 28 [l0, l1] (zk_psh v []) (s2, z2, k + 0, c + 0)) (fun X s2 z2 => PX X s2 z2))) ∧
  (∀ (n : Nat) (l1 : Option Value) (y0 : Value) (r : List Value) (σ : zk_S) (sz k c : Nat), zk_run E (zk_VT E) M_X11_isSolved (C_X11_isSolved E) P PX K (n + 1) 28 [some y0, l1] r (σ, sz, k, c) = (zk_isr y0 ∧ zk_run E (zk_VT E) M_X11_isSolved (C_X11_isSolved E) P PX K n 29 [some y0, l1] (y0 :: r) (σ, sz, k, c))) ∧
  (∀ (n : Nat) (l0 l1 : Option Value) (a : Nat) (r : List Value) (σ : zk_S) (sz k c : Nat), zk_run E (zk_VT E) M_X11_isSolved (C_X11_isSolved E) P PX K (n + 1) 29 [l0, l1] (.ref a :: r) (σ, sz, k, c) = zk_fld (zk_view E σ a) [10] 0 (fun v => zk_run E (zk_VT E) M_X11_isSolved (C_X11_isSolved E) P PX K n 32 [l0, l1] (v :: r) (σ, sz, k, c))) ∧
  (∀ (n : Nat) (l0 l1 : Option Value) (x : Int32) (r : List Value) (σ : zk_S) (sz k c : Nat), zk_run E (zk_VT E) M_X11_isSolved (C_X11_isSolved E) P PX K (n + 1) 32 [l0, l1] (.int x :: r) (σ, sz, k, c) = ((¬ x = 0 → zk_run E (zk_VT E) M_X11_isSolved (C_X11_isSolved E) P PX K n 39 [l0, l1] r (σ, sz, k, c)) ∧ (¬ (¬ x = 0) → zk_run E (zk_VT E) M_X11_isSolved (C_X11_isSolved E) P PX K n 35 [l0, l1] r (σ, sz, k, c)))) ∧
  (∀ (n : Nat) (l0 l1 : Option Value)  (r : List Value) (σ : zk_S) (sz k c : Nat), zk_run E (zk_VT E) M_X11_isSolved (C_X11_isSolved E) P PX K (n + 1) 35 [l0, l1] r (σ, sz, k, c) = zk_run E (zk_VT E) M_X11_isSolved (C_X11_isSolved E) P PX K n 36 [l0, l1] (.int (1) :: r) (σ, sz, k, c)) ∧
  (∀ (n : Nat) (l0 l1 : Option Value)  (r : List Value) (σ : zk_S) (sz k c : Nat), zk_run E (zk_VT E) M_X11_isSolved (C_X11_isSolved E) P PX K (n + 1) 36 [l0, l1] r (σ, sz, k, c) = zk_run E (zk_VT E) M_X11_isSolved (C_X11_isSolved E) P PX K n 40 [l0, l1] r (σ, sz, k, c)) ∧
  (∀ (n : Nat) (l0 l1 : Option Value)  (r : List Value) (σ : zk_S) (sz k c : Nat), zk_run E (zk_VT E) M_X11_isSolved (C_X11_isSolved E) P PX K (n + 1) 39 [l0, l1] r (σ, sz, k, c) = zk_run E (zk_VT E) M_X11_isSolved (C_X11_isSolved E) P PX K n 40 [l0, l1] (.int (0) :: r) (σ, sz, k, c)) ∧
  (∀ (n : Nat) (l0 l1 : Option Value) (x : Int32)  (σ : zk_S) (sz k c : Nat), zk_run E (zk_VT E) M_X11_isSolved (C_X11_isSolved E) P PX K (n + 1) 40 [l0, l1] [.int x] (σ, sz, k, c) = (zk_nok (some (.boolean)) x ∧ P (some (.int x)) σ sz ∧ k ≤ 0 ∧ c ≤ 0)) ∧
  (∀ (n : Nat) (l0 l1 : Option Value) (r : List Value) (w : zk_W zk_S), zk_go E (zk_VT E) M_X11_isSolved (C_X11_isSolved E) P PX K n 0 [l0, l1] r w = zk_run E (zk_VT E) M_X11_isSolved (C_X11_isSolved E) P PX K (n + 1) 0 [l0, l1] r w) := ⟨by intros; rfl, by intros; rfl, by intros; rfl, by intros; rfl, by intros; rfl, by intros; rfl, by intros; rfl, by intros; rfl, by intros; rfl, by intros; rfl, by intros; rfl, by intros; rfl, by intros; rfl, by intros; rfl, by intros; rfl, by intros; rfl, by intros; rfl, by intros; rfl, by intros; rfl, by intros; rfl, by intros; rfl, by intros; rfl⟩
theorem vc_X11_isSolved (E : zk_E) : zk_VC E (zk_VT E) M_X11_isSolved (C_X11_isSolved E) 2 (sp_X11_isSolved E) := by
  intro av σ sz P PX h
  obtain ⟨J, N, Q, O, U⟩ := σ
  unfold sp_X11_isSolved at h
  split at h
  case h_2 => exact h.elim
  rename_i a0 r
  obtain ⟨rfl, h⟩ := h
  refine ⟨Nat.le_of_ble_eq_true rfl, fun G hG => ?_⟩
  change G 0 [some (.ref (zk_ad E 22)), some (.int r)] [] ((J, N, Q, O, U), sz, 0, 0)
  try dsimp only at h
  obtain ⟨hmi, h⟩ := h
  have hms := hmi.1
  rcases h with ⟨j, hj, rfl, h⟩ | ⟨hr, h⟩
  · have c1 := m_isRoom_t hms hj
    (refine hG 900 _ _ _ _ ?_; simp only [r_X11_isSolved, zk_kl_none, zk_kl_int, zk_kl_ref, zk_kl_null, zk_kl_long, zk_kl_rf, zk_isr_ref, zk_isr_null, zk_isr_rf9, zk_c1_int, zk_c1_ref, zk_c1_null, zk_c1_rf, zk_psh_some, zk_psh_none, zk_nok_int, zk_nok_bool0, zk_nok_bool1, zk_nok_b, zk_fok_0, zk_fok_1, zk_fok_2, zk_fok_n, zk_fok_rf, zb_f, zb_p, zb_i, zb_a, zb_s, zk_nth_0, zk_nth_s, zk_fld_o, zk_put_o, zk_rv_eq, zk_ri_eq, zk_is_o, List.mem_cons, List.not_mem_nil, or_false, false_or, or_true, true_or, and_true, true_and, not_false_iff, not_true_eq_false, true_implies, false_implies, imp_self, implies_true, forall_const, zk_lit, zk_uj_ap, zk_un_ap, zk_un_un, zk_uj_uj, Nat.reduceEqDiff, eq_self, zk_bq, Bool.true_or, Bool.false_or, Nat.le_refl, Nat.zero_add, Nat.add_zero, Nat.reduceAdd, Nat.reduceLeDiff, Nat.le_zero_eq, and_self, and_false, false_and, ite_true, ite_false, Nat.zero_le, List.length_cons, List.length_nil, Option.some.injEq, forall_eq', reduceCtorEq, spe_X11_isRoom, hms, c1, zk_b0, Bool.true_eq_false, spe_X11_solve])
    refine ⟨hmi.thr 0, fun J2 N2 hso => ?_⟩
    have qe := (QE.thr J N 0).so hso
    have h0 := qe.2
    simp only [r_X11_isSolved, zk_kl_none, zk_kl_int, zk_kl_ref, zk_kl_null, zk_kl_long, zk_kl_rf, zk_isr_ref, zk_isr_null, zk_isr_rf9, zk_c1_int, zk_c1_ref, zk_c1_null, zk_c1_rf, zk_psh_some, zk_psh_none, zk_nok_int, zk_nok_bool0, zk_nok_bool1, zk_nok_b, zk_fok_0, zk_fok_1, zk_fok_2, zk_fok_n, zk_fok_rf, zb_f, zb_p, zb_i, zb_a, zb_s, zk_nth_0, zk_nth_s, zk_fld_o, zk_put_o, zk_rv_eq, zk_ri_eq, zk_is_o, List.mem_cons, List.not_mem_nil, or_false, false_or, or_true, true_or, and_true, true_and, not_false_iff, not_true_eq_false, true_implies, false_implies, imp_self, implies_true, forall_const, zk_lit, zk_uj_ap, zk_un_ap, zk_un_un, zk_uj_uj, Nat.reduceEqDiff, eq_self, zk_bq, Bool.true_or, Bool.false_or, Nat.le_refl, Nat.zero_add, Nat.add_zero, Nat.reduceAdd, Nat.reduceLeDiff, Nat.le_zero_eq, and_self, and_false, false_and, ite_true, ite_false, Nat.zero_le, List.length_cons, List.length_nil, Option.some.injEq, forall_eq', reduceCtorEq, h0]
    exact h J2 N2 qe hso.sv
  · (refine hG 900 _ _ _ _ ?_; simp only [r_X11_isSolved, zk_kl_none, zk_kl_int, zk_kl_ref, zk_kl_null, zk_kl_long, zk_kl_rf, zk_isr_ref, zk_isr_null, zk_isr_rf9, zk_c1_int, zk_c1_ref, zk_c1_null, zk_c1_rf, zk_psh_some, zk_psh_none, zk_nok_int, zk_nok_bool0, zk_nok_bool1, zk_nok_b, zk_fok_0, zk_fok_1, zk_fok_2, zk_fok_n, zk_fok_rf, zb_f, zb_p, zb_i, zb_a, zb_s, zk_nth_0, zk_nth_s, zk_fld_o, zk_put_o, zk_rv_eq, zk_ri_eq, zk_is_o, List.mem_cons, List.not_mem_nil, or_false, false_or, or_true, true_or, and_true, true_and, not_false_iff, not_true_eq_false, true_implies, false_implies, imp_self, implies_true, forall_const, zk_lit, zk_uj_ap, zk_un_ap, zk_un_un, zk_uj_uj, Nat.reduceEqDiff, eq_self, zk_bq, Bool.true_or, Bool.false_or, Nat.le_refl, Nat.zero_add, Nat.add_zero, Nat.reduceAdd, Nat.reduceLeDiff, Nat.le_zero_eq, and_self, and_false, false_and, ite_true, ite_false, Nat.zero_le, List.length_cons, List.length_nil, Option.some.injEq, forall_eq', reduceCtorEq, spe_X11_isRoom, hms, hr, zk_b0])
    exact h _ _ (QE.thr J N 1)
theorem ct_X11_isSolved {l : Launch} (hl : l.stackTraces = false) (E : zk_E) : zk_C l E (zk_VT E) yX11_isSolved cX11_isSolved 2 (some (.boolean)) rm_X11_isSolved (sp_X11_isSolved E) := by
  refine zk_meth (M := M_X11_isSolved) (C := C_X11_isSolved E) hl (by decide +kernel) rfl (fun _ _ => rfl) (zk_VT_ok E) MO_X11_isSolved TO_X11_isSolved THo_X11_isSolved ?_ (vc_X11_isSolved E)
  exact fun p e s m args below meth c X pc n mc ms sp2 h => by
    have h2 := zk_lka_mem h
    simp only [List.mem_cons, List.not_mem_nil, or_false, Prod.mk.injEq] at h2
    rcases h2 with ⟨rfl, rfl, rfl, rfl, rfl⟩ | ⟨rfl, rfl, rfl, rfl, rfl⟩
    · exact zk_coV (idx := 137) X (ct_X11_isRoom hl E) (List.forall_mem_cons.mpr ⟨zk_wi 1122 (by decide +kernel) rfl, List.forall_mem_cons.mpr ⟨zk_wi 1124 (by decide +kernel) rfl, List.forall_mem_cons.mpr ⟨zk_wp 13 (by decide +kernel) rfl, List.forall_mem_cons.mpr ⟨zk_wi 6 (by decide +kernel) rfl, List.forall_mem_cons.mpr ⟨zk_wi 1125 (by decide +kernel) rfl, fun _ h => absurd h List.not_mem_nil⟩⟩⟩⟩⟩) (fun ci h => by
      have h := Nat.eq_of_beq_eq_true h
      subst h
      exact ⟨_, _, rfl⟩) (by decide +kernel) ⟨by decide, by decide, by decide +kernel⟩ ⟨by decide, by decide⟩
    · exact zk_coV (idx := 227) X (ct_X11_solve hl E) (List.forall_mem_cons.mpr ⟨zk_wi 1227 (by decide +kernel) rfl, List.forall_mem_cons.mpr ⟨zk_wi 1229 (by decide +kernel) rfl, List.forall_mem_cons.mpr ⟨zk_wp 24 (by decide +kernel) rfl, List.forall_mem_cons.mpr ⟨zk_wi 6 (by decide +kernel) rfl, List.forall_mem_cons.mpr ⟨zk_wi 1230 (by decide +kernel) rfl, fun _ h => absurd h List.not_mem_nil⟩⟩⟩⟩⟩) (fun ci h => by
      have h := Nat.eq_of_beq_eq_true h
      subst h
      exact ⟨_, _, rfl⟩) (by decide +kernel) ⟨by decide, by decide, by decide +kernel⟩ ⟨by decide, by decide⟩

