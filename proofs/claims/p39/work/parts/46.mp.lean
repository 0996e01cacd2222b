/-! the reference: rooms, doors, stairs, roomAt, areJoined, canBe -/
def m_ex (p : Nat → Bool) : Nat → Bool
  | 0 => false
  | n + 1 => m_ex p n || p n
theorem m_ex_true {p : Nat → Bool} {k : Nat} (h : p k = true) : ∀ {n}, k < n → m_ex p n = true
  | 0, hk => absurd hk (Nat.not_lt_zero _)
  | n + 1, hk => by
    rw [m_ex, Bool.or_eq_true]
    rcases Nat.lt_succ_iff_lt_or_eq.mp hk with q | q
    · exact Or.inl (m_ex_true h q)
    · rw [← q]; exact Or.inr h
theorem m_ex_false {p : Nat → Bool} : ∀ {n}, m_ex p n = false → ∀ k, k < n → p k = false
  | 0, _, k, hk => absurd hk (Nat.not_lt_zero _)
  | n + 1, h, k, hk => by
    rw [m_ex, Bool.or_eq_false_iff] at h
    rcases Nat.lt_succ_iff_lt_or_eq.mp hk with q | q
    · exact m_ex_false h.1 k q
    · rw [q]; exact h.2
theorem m_ex_iff {p : Nat → Bool} {n : Nat} : m_ex p n = true ↔ ∃ k, k < n ∧ p k = true := by
  constructor
  · intro h
    induction n with
    | zero => cases h
    | succ n ih =>
      rw [m_ex, Bool.or_eq_true] at h
      rcases h with h | h
      · obtain ⟨k, h1, h2⟩ := ih h; exact ⟨k, by omega, h2⟩
      · exact ⟨n, Nat.lt_succ_self n, h⟩
  · rintro ⟨k, h1, h2⟩; exact m_ex_true h2 h1
def m_fst (p : Nat → Bool) : Nat → Option Nat
  | 0 => none
  | n + 1 => (m_fst p n).or (if p n = true then some n else none)
theorem m_fst_some {p : Nat → Bool} {k j : Nat} (h : m_fst p k = some j) : ∀ m, m_fst p (k + m) = some j
  | 0 => h
  | m + 1 => by rw [← Nat.add_assoc, m_fst, m_fst_some h m]; rfl
def m_atf (N : Nat → Nat → Int32) (fl x y : Int32) (r : Nat) : Bool := decide (N 23 r = fl) && (decide (N 24 r ≤ x) && (decide (x < N 24 r + N 26 r) && (decide (N 25 r ≤ y) && decide (y < N 25 r + N 27 r))))
def a_at (J N : Nat → Nat → Int32) (fl x y : Int32) : Int32 := match m_fst (m_atf N fl x y) (m_nr J) with
  | some k => nI k
  | none => -1
def m_jf (N : Nat → Nat → Int32) (a b : Int32) (d : Nat) : Bool := decide (¬ N 30 d = -2) && (decide (N 30 d = a ∧ N 31 d = b) || decide (N 30 d = b ∧ N 31 d = a))
def a_join (J N : Nat → Nat → Int32) (a b : Int32) : Bool := m_ex (m_jf N a b) (m_nd J)
def m_cbR (N : Nat → Nat → Int32) (j : Nat) (ix iy up iw : Int32) (r : Nat) : Bool := decide (¬ r = j) && (decide (N 23 r = N 23 j) && decide (0 < m_onSides N r ix iy up iw))
def m_cbD (N : Nat → Nat → Int32) (j : Nat) (ix iy up iw : Int32) (d : Nat) : Bool := decide (¬ N 30 d = -2) && (decide (N 23 (N 30 d).toNatClampNeg = N 23 j) && decide (0 < m_shared ix iy up iw (N 32 d) (N 33 d) (N 35 d) (N 34 d)))
def m_cbW (N : Nat → Nat → Int32) (j : Nat) (ix iy up iw : Int32) (d : Nat) : Bool := decide (¬ N 37 d = -2) && (decide (N 23 (N 37 d).toNatClampNeg = N 23 j) && decide (0 < m_shared ix iy up iw (N 38 d) (N 39 d) (N 41 d) (N 40 d)))
def m_canBe (J N : Nat → Nat → Int32) (j : Nat) (o ix iy up iw : Int32) : Bool :=
  decide (iw ≤ m_onSides N j ix iy up iw) && ((if o = -1 then !m_ex (m_cbR N j ix iy up iw) (m_nr J) else decide (iw ≤ m_onSides N o.toNatClampNeg ix iy up iw)) && (!m_ex (m_cbD N j ix iy up iw) (m_nd J) && !m_ex (m_cbW N j ix iy up iw) (m_nw J)))

