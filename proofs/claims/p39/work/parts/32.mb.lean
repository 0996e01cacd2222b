/-! the reference: loads -/
theorem g_dep_cases (J N : Nat → Nat → Int32) : ∀ f r m, g_dep J N f r m = -1 ∨ ∃ t, m ≤ t ∧ t < m + f ∧ g_dep J N f r m = nI t
  | 0, _, _ => Or.inl rfl
  | f + 1, r, m => by
    unfold g_dep
    split
    · exact Or.inr ⟨m, Nat.le_refl _, by omega, rfl⟩
    · split
      · exact Or.inl rfl
      · rcases g_dep_cases J N f (m_into N (lea J N r.toNatClampNeg)) (m + 1) with h | ⟨t, h1, h2, h3⟩
        · exact Or.inl h
        · exact Or.inr ⟨t, by omega, by omega, h3⟩
def g_ldp (J N : Nat → Nat → Int32) (k : Nat) (p : Int32) : Nat → Int32 → Int32 → Int32
  | 0, _, s => s
  | f + 1, r, s => if r = -1 then s else g_ldp J N k p f (m_into N (lea J N r.toNatClampNeg)) (s + if lea J N r.toNatClampNeg / 2 = k then p else 0)
def g_ld (J N : Nat → Nat → Int32) (k : Nat) : Nat → Int32
  | 0 => 0
  | r + 1 => if N 23 r = -2 ∨ g_deep J N r = -1 then g_ld J N k r else g_ldp J N k (N 29 r) 21 (nI r) (g_ld J N k r)
def a_load (J N : Nat → Nat → Int32) (k : Nat) : Int32 := g_ld J N k (m_nr J)
theorem ES.ldp {J J2 N N2 : Nat → Nat → Int32} (h : ES J J2 N N2) (k : Nat) (p : Int32) : ∀ f r s, g_ldp J2 N2 k p f r s = g_ldp J N k p f r s
  | 0, _, _ => rfl
  | f + 1, r, s => by rw [g_ldp, g_ldp, h.lea, h.intof, h.ldp k p f]
theorem ES.ld {J J2 N N2 : Nat → Nat → Int32} (h : ES J J2 N N2) (k : Nat) : ∀ r, g_ld J2 N2 k r = g_ld J N k r
  | 0 => rfl
  | r + 1 => by rw [g_ld, g_ld, h.ld k r, h.deep, h.ldp, h.n (o := 23) (by decide), h.n (o := 29) (by decide)]
theorem ES.a6 {J J2 N N2 : Nat → Nat → Int32} (h : ES J J2 N N2) : a_load J2 N2 = a_load J N := by funext k; unfold a_load; rw [h.ld, h.nr]
theorem nI_neg1 : (0 : Int32) ≤ -1 ↔ False := by decide
theorem nI_nn {t : Nat} (h : t < 2 ^ 31) : (0 : Int32) ≤ nI t := (nI_le (a := 0) (Nat.zero_le _) h : nI 0 ≤ nI t)

