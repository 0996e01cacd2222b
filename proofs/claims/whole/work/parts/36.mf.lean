/-! time ends: the depths, weighed, fall -/
theorem g_dep_eq (J N : Nat → Nat → Int32) (f : Nat) (r : Int32) (m : Nat) : g_dep J N (f + 1) r m = if r = -1 then nI m else if lea J N r.toNatClampNeg = 100 then -1 else g_dep J N f (m_into N (lea J N r.toNatClampNeg)) (m + 1) := rfl
theorem g_dep_shift (J N : Nat → Nat → Int32) : ∀ f r, (∀ m, g_dep J N f r m = -1) ∨ ∃ t, t < f ∧ ∀ m, g_dep J N f r m = nI (t + m)
  | 0, _ => Or.inl fun _ => rfl
  | f + 1, r => by
    by_cases q : r = -1
    · exact Or.inr ⟨0, Nat.succ_pos _, fun m => by rw [g_dep_eq, if_pos q, Nat.zero_add]⟩
    · by_cases q2 : lea J N r.toNatClampNeg = 100
      · exact Or.inl fun m => by rw [g_dep_eq, if_neg q, if_pos q2]
      · rcases g_dep_shift J N f (m_into N (lea J N r.toNatClampNeg)) with h | ⟨t, h1, h2⟩
        · exact Or.inl fun m => by rw [g_dep_eq, if_neg q, if_neg q2]; exact h _
        · exact Or.inr ⟨t + 1, by omega, fun m => by rw [g_dep_eq, if_neg q, if_neg q2, h2]; congr 1; omega⟩
theorem g_dep_more (J N : Nat → Nat → Int32) : ∀ f r m, ¬ g_dep J N f r m = -1 → g_dep J N (f + 1) r m = g_dep J N f r m
  | 0, _, _, h => absurd rfl h
  | f + 1, r, m, h => by
    rw [g_dep_eq J N (f + 1) r m, g_dep_eq J N f r m]
    rw [g_dep_eq J N f r m] at h
    by_cases q : r = -1
    · rw [if_pos q, if_pos q]
    · rw [if_neg q] at h
      rw [if_neg q, if_neg q]
      by_cases q2 : lea J N r.toNatClampNeg = 100
      · rw [if_pos q2] at h; exact absurd rfl h
      · rw [if_neg q2] at h
        rw [if_neg q2, if_neg q2]
        exact g_dep_more J N f _ (m + 1) h
/-- the next room's depth is one less -/
theorem g_deep_next {J N : Nat → Nat → Int32} {r : Nat} (hr : r < 20) (h : ¬ g_deep J N r = -1) : ∃ t, t < 20 ∧ g_deep J N r = nI (t + 1) ∧ (m_into N (lea J N r) = -1 ∨ g_dep J N 21 (m_into N (lea J N r)) 0 = nI t) := by
  unfold g_deep at h ⊢
  rw [g_dep_eq, if_neg (nI_ne1 (by omega)), n_cl (by omega)] at h ⊢
  by_cases q : lea J N r = 100
  · rw [if_pos q] at h; exact absurd rfl h
  · rw [if_neg q] at h ⊢
    rcases g_dep_shift J N 20 (m_into N (lea J N r)) with w | ⟨t, w1, w2⟩
    · exact absurd (w _) h
    · refine ⟨t, w1, w2 1, Or.inr ?_⟩
      rw [g_dep_more _ _ _ _ _ (by rw [w2]; exact nI_ne1 (by omega)), w2]
      rfl

