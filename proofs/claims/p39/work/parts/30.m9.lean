/-! the reference: ways, leavings, depths as told -/
theorem SV.vw {J N : Nat → Nat → Int32} (hmi : MI J N) (h : SV J N) : VW J N := fun e he => by
  have h1 := h.2.1 e he
  have h2 : g_v N e = LL J N e := by unfold g_v; rw [h1, n_cl (by have := LL_le_INF (J := J) (N := N) e; unfold INF at this; omega)]
  rw [h2]
  exact ⟨⟨h1, LL_le_INF e⟩, m_gx hmi he⟩
theorem SV.least {J N : Nat → Nat → Int32} (h : SV J N) (r b : Int32) (x y : Nat) : g_least J N (g_v N) r b x y = g_least J N (LL J N) r b x y := by
  have hq : ∀ f ∈ m_act J N, g_v N f = LL J N f := fun f hf => by
    unfold g_v; rw [h.2.1 f hf, n_cl (by have := LL_le_INF (J := J) (N := N) f; unfold INF at this; omega)]
  exact Nat.le_antisymm (g_least_mono fun f hf => Nat.le_of_eq (hq f hf)) (g_least_mono fun f hf => Nat.le_of_eq (hq f hf).symm)
theorem g_least_INF (J N : Nat → Nat → Int32) (v : Nat → Nat) (r b : Int32) (x y : Nat) : g_least J N v r b x y ≤ INF := fmin_le_init _ _ _ _
theorem g_far_INF (J N : Nat → Nat → Int32) (j : Nat) : ∀ c, g_far J N j c ≤ INF
  | 0 => Nat.zero_le _
  | c + 1 => by
    have h1 := g_far_INF J N j c
    have h2 := g_least_INF J N (LL J N) (nI j) (-1) (2 * ((N 24 j).toNatClampNeg + c % 2 * (N 26 j).toNatClampNeg)) (2 * ((N 25 j).toNatClampNeg + c / 2 * (N 27 j).toNatClampNeg))
    unfold g_far g_cor
    omega
theorem g_cxy {J N : Nat → Nat → Int32} {j c : Nat} (hm : MI J N) (hj : j < m_nr J) (hc : c < 4) :
    (2 * (N 24 j + nI (c % 2) * N 26 j) = nI (2 * ((N 24 j).toNatClampNeg + c % 2 * (N 26 j).toNatClampNeg)) ∧ 2 * ((N 24 j).toNatClampNeg + c % 2 * (N 26 j).toNatClampNeg) ≤ 400) ∧
    (2 * (N 25 j + nI (c / 2) * N 27 j) = nI (2 * ((N 25 j).toNatClampNeg + c / 2 * (N 27 j).toNatClampNeg)) ∧ 2 * ((N 25 j).toNatClampNeg + c / 2 * (N 27 j).toNatClampNeg) ≤ 400) := by
  obtain ⟨-, h1, h2, h3, h4, -⟩ := hm.2.1 j hj
  have a1 := h1.eq (by decide)
  have a2 := h2.eq (by decide)
  have a3 := h3.eq (by decide)
  have a4 := h4.eq (by decide)
  have m1 : c % 2 * (N 26 j).toNatClampNeg ≤ 1 * 30 := Nat.mul_le_mul (by omega) a3.2.2
  have m2 : c / 2 * (N 27 j).toNatClampNeg ≤ 1 * 30 := Nat.mul_le_mul (by omega) a4.2.2
  refine ⟨⟨?_, by omega⟩, ?_, by omega⟩
  · rw [← n_mul, ← n_add, ← n_mul, ← a1.1, ← a3.1]; rfl
  · rw [← n_mul, ← n_add, ← n_mul, ← a2.1, ← a4.1]; rfl

