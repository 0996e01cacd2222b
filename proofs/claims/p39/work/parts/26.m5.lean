/-! the reference: leave, depthOf -/
theorem upd_self (f : Nat → Int32) (k : Nat) (x : Int32) : upd f k x k = x := by unfold upd; rw [if_pos rfl]
theorem upd_ne (f : Nat → Int32) {k j : Nat} (x : Int32) (h : j ≠ k) : upd f k x j = f j := by unfold upd; rw [if_neg h]
theorem upd_upd (f : Nat → Int32) (k : Nat) (x y : Int32) : upd (upd f k x) k y = upd f k y := by funext a; unfold upd; split <;> rfl
theorem zk_un_49_48 (N : Nat → Nat → Int32) (A B : Nat → Int32) : zk_un (zk_un N 49 B) 48 A = zk_un (zk_un N 48 A) 49 B := by
  funext o; unfold zk_un; split <;> split <;> first | rfl | omega
theorem ES.dist {J J2 N N2 : Nat → Nat → Int32} (h : ES J J2 N N2) : m_dist N2 = m_dist N := by
  funext e x y; unfold m_dist; rw [h.px, h.py]
def g_mx (N : Nat → Nat → Int32) (j : Nat) : Nat := 2 * (N 24 j).toNatClampNeg + (N 26 j).toNatClampNeg
def g_my (N : Nat → Nat → Int32) (j : Nat) : Nat := 2 * (N 25 j).toNatClampNeg + (N 27 j).toNatClampNeg
theorem g_mx_eq {J N : Nat → Nat → Int32} {j : Nat} (hm : MI J N) (hj : j < m_nr J) : (2 * N 24 j + N 26 j = nI (g_mx N j) ∧ g_mx N j ≤ 400) ∧ (2 * N 25 j + N 27 j = nI (g_my N j) ∧ g_my N j ≤ 400) := by
  obtain ⟨-, h1, h2, h3, h4, -⟩ := hm.2.1 j hj
  unfold g_mx g_my
  have a1 := h1.eq (by decide)
  have a2 := h2.eq (by decide)
  have a3 := h3.eq (by decide)
  have a4 := h4.eq (by decide)
  refine ⟨⟨?_, by omega⟩, ?_, by omega⟩
  · rw [a1.1, a3.1, show (2 : Int32) = nI 2 from rfl, n_mul, n_add, n_cl (by omega), n_cl (by omega)]
  · rw [a2.1, a4.1, show (2 : Int32) = nI 2 from rfl, n_mul, n_add, n_cl (by omega), n_cl (by omega)]
def g_bs (J N : Nat → Nat → Int32) (v : Nat → Nat) (r : Int32) (x y : Nat) (p : Nat × Nat) (e : Nat) : Nat × Nat :=
  if m_from J N e = r ∧ v e < INF ∧ dN (g_x N e) (g_y N e) x y + v e < p.1 then (dN (g_x N e) (g_y N e) x y + v e, e) else p
def g_bsl (J N : Nat → Nat → Int32) (v : Nat → Nat) (r : Int32) (x y : Nat) (L : List Nat) : Nat × Nat := L.foldl (g_bs J N v r x y) (INF, 100)
def g_best (J N : Nat → Nat → Int32) (v : Nat → Nat) (r : Int32) (x y : Nat) : Nat × Nat := g_bsl J N v r x y (m_act J N)
def g_lv (l : Nat) : Int32 := if l = 100 then -1 else nI l
theorem g_bsl_app (J N : Nat → Nat → Int32) (v : Nat → Nat) (r : Int32) (x y : Nat) (L : List Nat) (e : Nat) : g_bsl J N v r x y (L ++ [e]) = g_bs J N v r x y (g_bsl J N v r x y L) e := by
  unfold g_bsl; rw [List.foldl_append]; rfl
theorem g_bsl_gone {J N : Nat → Nat → Int32} {v : Nat → Nat} {r : Int32} {x y : Nat} : ∀ (L : List Nat), (∀ e ∈ L, ¬ m_from J N e = r) → g_bsl J N v r x y L = (INF, 100) := by
  intro L h
  unfold g_bsl
  induction L with
  | nil => rfl
  | cons e L ih =>
    rw [List.foldl_cons]
    have : g_bs J N v r x y (INF, 100) e = (INF, 100) := by
      unfold g_bs; rw [if_neg (fun q => h e List.mem_cons_self q.1)]
    rw [this]
    exact ih (fun e he => h e (List.mem_cons_of_mem _ he))
theorem g_bsl_fst {J N : Nat → Nat → Int32} {v : Nat → Nat} {r : Int32} {x y : Nat} : ∀ (L : List Nat), (g_bsl J N v r x y L).1 ≤ INF ∧ ((g_bsl J N v r x y L).2 = 100 ↔ (g_bsl J N v r x y L).1 = INF) ∨ ∃ e ∈ L, 100 ≤ e := by
  intro L
  suffices h : ∀ (L : List Nat) (p : Nat × Nat), p.1 ≤ INF → (p.2 = 100 ↔ p.1 = INF) → (L.foldl (g_bs J N v r x y) p).1 ≤ INF ∧ ((L.foldl (g_bs J N v r x y) p).2 = 100 ↔ (L.foldl (g_bs J N v r x y) p).1 = INF) ∨ ∃ e ∈ L, 100 ≤ e by
    exact h L (INF, 100) (Nat.le_refl _) ⟨fun _ => rfl, fun _ => rfl⟩
  intro L
  induction L with
  | nil => intro p h1 h2; exact Or.inl ⟨h1, h2⟩
  | cons e L ih =>
    intro p h1 h2
    rw [List.foldl_cons]
    by_cases q : 100 ≤ e
    · exact Or.inr ⟨e, List.mem_cons_self, q⟩
    · rcases ih (g_bs J N v r x y p e) (by unfold g_bs; split <;> (try dsimp only) <;> omega) (by unfold g_bs; split <;> (try dsimp only) <;> omega) with w | ⟨f, f1, f2⟩
      · exact Or.inl w
      · exact Or.inr ⟨f, List.mem_cons_of_mem _ f1, f2⟩
theorem g_bsl_ok {J N : Nat → Nat → Int32} {v : Nat → Nat} {r : Int32} {x y : Nat} {L : List Nat} (hL : ∀ e ∈ L, e < 100) : (g_bsl J N v r x y L).1 ≤ INF ∧ ((g_bsl J N v r x y L).2 = 100 ↔ (g_bsl J N v r x y L).1 = INF) := by
  rcases g_bsl_fst (J := J) (N := N) (v := v) (r := r) (x := x) (y := y) L with h | ⟨e, h1, h2⟩
  · exact h
  · exact absurd (hL e h1) (by omega)

