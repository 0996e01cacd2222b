/-! the reference: solve -/
theorem DD_1 {J N : Nat → Nat → Int32} {e : Nat} (h : ¬ m_into N e = -1) : DD J N 1 e = INF := by
  show FF J N (fun _ => INF) e = INF
  unfold FF
  rw [if_neg h]
  apply Nat.min_eq_left
  rcases (g_least_le (J := J) (N := N) (v := fun _ => INF) (r := m_into N e) (b := nI (e / 2)) (x := g_x N e) (y := g_y N e)).mp (Nat.le_refl _) with q | ⟨f, -, q, -⟩
  · omega
  · exact absurd q.2.2 (Nat.lt_irrefl _)
theorem DD_out {J N : Nat → Nat → Int32} {e k : Nat} (h : m_into N e = -1) : DD J N (k + 1) e = 0 := by
  show FF J N _ e = 0
  unfold FF; rw [if_pos h]
theorem sum_le {v v2 : Nat → Nat} : ∀ {L : List Nat}, (∀ e ∈ L, v2 e ≤ v e) → (L.map v2).sum ≤ (L.map v).sum
  | [], _ => Nat.le_refl _
  | e :: L, h => by
    have h1 := h e List.mem_cons_self
    have h2 := sum_le (fun e he => h e (List.mem_cons_of_mem _ he) : ∀ e ∈ L, v2 e ≤ v e)
    simp only [List.map_cons, List.sum_cons]
    omega
theorem sum_lt {v v2 : Nat → Nat} {e : Nat} : ∀ {L : List Nat}, e ∈ L → v2 e < v e → (∀ e ∈ L, v2 e ≤ v e) → (L.map v2).sum < (L.map v).sum
  | [], he, _, _ => absurd he List.not_mem_nil
  | f :: L, he, hlt, h => by
    have h1 := h f List.mem_cons_self
    have h2 := sum_le (fun e he => h e (List.mem_cons_of_mem _ he) : ∀ e ∈ L, v2 e ≤ v e)
    simp only [List.map_cons, List.sum_cons]
    rcases List.mem_cons.mp he with rfl | q
    · omega
    · have h3 := sum_lt q hlt (fun e he => h e (List.mem_cons_of_mem _ he))
      omega
/-- all is told -/
def SO (J J2 N N2 : Nat → Nat → Int32) : Prop := J2 = zk_uj J 22 35 (nI (m_act J N).length) ∧ SE J J2 N N2 ∧ RW J2 N2 (m_act J N) ∧ (∀ e ∈ m_act J N, N2 47 e = nI (LL J N e)) ∧ (∀ j, j < m_nr J → N2 48 j = g_lv (lea J N j) ∧ N2 49 j = nI (BB J N j).1 ∧ N2 50 j = g_deep J N j)

