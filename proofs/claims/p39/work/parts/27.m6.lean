/-! the reference: depthOf, solve -/
theorem g_bsl_at {J N : Nat → Nat → Int32} {v : Nat → Nat} {r : Int32} {x y : Nat} (L : List Nat) : g_bsl J N v r x y L = (INF, 100) ∨ ((g_bsl J N v r x y L).2 ∈ L ∧ m_from J N (g_bsl J N v r x y L).2 = r ∧ v (g_bsl J N v r x y L).2 < INF ∧ (g_bsl J N v r x y L).1 = dN (g_x N (g_bsl J N v r x y L).2) (g_y N (g_bsl J N v r x y L).2) x y + v (g_bsl J N v r x y L).2) := by
  suffices h : ∀ (L : List Nat) (p : Nat × Nat), L.foldl (g_bs J N v r x y) p = p ∨ ((L.foldl (g_bs J N v r x y) p).2 ∈ L ∧ m_from J N (L.foldl (g_bs J N v r x y) p).2 = r ∧ v (L.foldl (g_bs J N v r x y) p).2 < INF ∧ (L.foldl (g_bs J N v r x y) p).1 = dN (g_x N (L.foldl (g_bs J N v r x y) p).2) (g_y N (L.foldl (g_bs J N v r x y) p).2) x y + v (L.foldl (g_bs J N v r x y) p).2) from h L (INF, 100)
  intro L
  induction L with
  | nil => intro p; exact Or.inl rfl
  | cons e L ih =>
    intro p
    rw [List.foldl_cons]
    rcases ih (g_bs J N v r x y p e) with h | h
    · rw [h]
      unfold g_bs
      split
      · next q => exact Or.inr ⟨List.mem_cons_self, q.1, q.2.1, rfl⟩
      · exact Or.inl rfl
    · exact Or.inr ⟨List.mem_cons_of_mem _ h.1, h.2⟩
theorem g_bsl_congr {J N : Nat → Nat → Int32} {v v2 : Nat → Nat} {r : Int32} {x y : Nat} {L : List Nat} (h : ∀ e ∈ L, v e = v2 e) : g_bsl J N v r x y L = g_bsl J N v2 r x y L := by
  unfold g_bsl
  generalize (INF, 100) = p
  induction L generalizing p with
  | nil => rfl
  | cons e L ih =>
    rw [List.foldl_cons, List.foldl_cons, ih (fun e he => h e (List.mem_cons_of_mem _ he))]
    unfold g_bs
    rw [h e List.mem_cons_self]
/-- the best way out from the middle of a room, and its first exit -/
def BB (J N : Nat → Nat → Int32) (j : Nat) : Nat × Nat := g_best J N (LL J N) (nI j) (g_mx N j) (g_my N j)
def lea (J N : Nat → Nat → Int32) (j : Nat) : Nat := (BB J N j).2
theorem lea_at {J N : Nat → Nat → Int32} (j : Nat) : BB J N j = (INF, 100) ∨ (lea J N j ∈ m_act J N ∧ m_from J N (lea J N j) = nI j ∧ LL J N (lea J N j) < INF ∧ (BB J N j).1 = dN (g_x N (lea J N j)) (g_y N (lea J N j)) (g_mx N j) (g_my N j) + LL J N (lea J N j)) := g_bsl_at _
theorem lea_le (J N : Nat → Nat → Int32) (j : Nat) : lea J N j ≤ 100 := by
  rcases lea_at (J := J) (N := N) j with h | h
  · rw [lea, h]; exact Nat.le_refl _
  · exact Nat.le_of_lt (m_act_mem.mp h.1).1
theorem lea_act {J N : Nat → Nat → Int32} {j : Nat} (h : lea J N j ≠ 100) : lea J N j ∈ m_act J N ∧ m_from J N (lea J N j) = nI j ∧ LL J N (lea J N j) < INF ∧ (BB J N j).1 = dN (g_x N (lea J N j)) (g_y N (lea J N j)) (g_mx N j) (g_my N j) + LL J N (lea J N j) := by
  rcases lea_at (J := J) (N := N) j with q | q
  · exact absurd (by rw [lea, q]) h
  · exact q
theorem ES.mx {J J2 N N2 : Nat → Nat → Int32} (h : ES J J2 N N2) : g_mx N2 = g_mx N := by funext j; unfold g_mx; rw [h.n (by decide), h.n (by decide)]
theorem ES.my {J J2 N N2 : Nat → Nat → Int32} (h : ES J J2 N N2) : g_my N2 = g_my N := by funext j; unfold g_my; rw [h.n (by decide), h.n (by decide)]
theorem ES.best {J J2 N N2 : Nat → Nat → Int32} (h : ES J J2 N N2) : g_best J2 N2 = g_best J N := by
  funext v r x y
  unfold g_best g_bsl g_bs
  simp only [h.from, h.gx, h.gy, h.act]
theorem ES.bb {J J2 N N2 : Nat → Nat → Int32} (h : ES J J2 N N2) : BB J2 N2 = BB J N := by
  funext j; unfold BB; rw [h.best, h.ll, h.mx, h.my]
theorem ES.lea {J J2 N N2 : Nat → Nat → Int32} (h : ES J J2 N N2) : lea J2 N2 = lea J N := by
  funext j; show (BB J2 N2 j).2 = (BB J N j).2; rw [h.bb]
theorem ES.intof {J J2 N N2 : Nat → Nat → Int32} (h : ES J J2 N N2) : m_into N2 = m_into N := by funext e; exact h.into e
/-- how many exits till one is out; -1 if one never is -/
def g_dep (J N : Nat → Nat → Int32) : Nat → Int32 → Nat → Int32
  | 0, _, _ => -1
  | f + 1, r, m => if r = -1 then nI m else if lea J N r.toNatClampNeg = 100 then -1 else g_dep J N f (m_into N (lea J N r.toNatClampNeg)) (m + 1)
theorem ES.dep {J J2 N N2 : Nat → Nat → Int32} (h : ES J J2 N N2) : ∀ f r m, g_dep J2 N2 f r m = g_dep J N f r m
  | 0, _, _ => rfl
  | f + 1, r, m => by unfold g_dep; rw [h.lea, h.intof, h.dep f]
def g_deep (J N : Nat → Nat → Int32) (j : Nat) : Int32 := g_dep J N 21 (nI j) 0
theorem ES.deep {J J2 N N2 : Nat → Nat → Int32} (h : ES J J2 N N2) : g_deep J2 N2 = g_deep J N := by funext j; exact h.dep _ _ _
/-- the leavings are told -/
def LW (J N : Nat → Nat → Int32) : Prop := ∀ q, q < m_nr J → N 48 q = g_lv (lea J N q)

