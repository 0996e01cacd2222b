/-! the reference: collect, least -/
theorem ES.ms {J J2 N N2 : Nat → Nat → Int32} (h : ES J J2 N N2) (hms : MS J) : MS J2 := by
  obtain ⟨h1, h2, h3, h4, -⟩ := h
  unfold MS m_nr m_nd m_nw m_ns at hms ⊢
  rw [h1, h2, h3, h4]
  exact hms
theorem ES.refl (J N : Nat → Nat → Int32) : ES J J N N := ⟨rfl, rfl, rfl, rfl, fun _ _ _ => rfl⟩
theorem ES.trans {J J2 J3 N N2 N3 : Nat → Nat → Int32} (h : ES J J2 N N2) (h2 : ES J2 J3 N2 N3) : ES J J3 N N3 :=
  ⟨h2.1.trans h.1, h2.2.1.trans h.2.1, h2.2.2.1.trans h.2.2.1, h2.2.2.2.1.trans h.2.2.2.1, fun o a b => (h2.2.2.2.2 o a b).trans (h.2.2.2.2 o a b)⟩
theorem ES.uj {J N : Nat → Nat → Int32} {k : Nat} {x : Int32} (h : k ≠ 1 ∧ k ≠ 9 ∧ k ≠ 17 ∧ k ≠ 23) : ES J (zk_uj J 22 k x) N N := by
  refine ⟨?_, ?_, ?_, ?_, fun _ _ _ => rfl⟩ <;> (unfold zk_uj; rw [if_neg (by omega)])
theorem ES.un {J N : Nat → Nat → Int32} {k : Nat} {g : Nat → Int32} (h : 46 < k ∨ k < 23) : ES J J N (zk_un N k g) :=
  ⟨rfl, rfl, rfl, rfl, fun o a b => by unfold zk_un; rw [if_neg (by omega)]⟩
theorem ES.from {J J2 N N2 : Nat → Nat → Int32} (h : ES J J2 N N2) (e : Nat) : m_from J2 N2 e = m_from J N e := by
  obtain ⟨h1, h2, h3, h4, h5⟩ := h
  unfold m_from m_nd m_ns
  rw [h2, h4, h5 30 (by omega) (by omega), h5 31 (by omega) (by omega), h5 36 (by omega) (by omega), h5 42 (by omega) (by omega), h5 43 (by omega) (by omega)]
theorem ES.into {J J2 N N2 : Nat → Nat → Int32} (h : ES J J2 N N2) (e : Nat) : m_into N2 e = m_into N e := by
  obtain ⟨h1, h2, h3, h4, h5⟩ := h
  unfold m_into
  rw [h5 30 (by omega) (by omega), h5 31 (by omega) (by omega), h5 42 (by omega) (by omega), h5 43 (by omega) (by omega)]
theorem ES.px {J J2 N N2 : Nat → Nat → Int32} (h : ES J J2 N N2) (e : Nat) : m_px N2 e = m_px N e := by
  obtain ⟨h1, h2, h3, h4, h5⟩ := h
  unfold m_px
  rw [h5 32 (by omega) (by omega), h5 34 (by omega) (by omega), h5 35 (by omega) (by omega), h5 44 (by omega) (by omega)]
theorem ES.py {J J2 N N2 : Nat → Nat → Int32} (h : ES J J2 N N2) (e : Nat) : m_py N2 e = m_py N e := by
  obtain ⟨h1, h2, h3, h4, h5⟩ := h
  unfold m_py
  rw [h5 33 (by omega) (by omega), h5 34 (by omega) (by omega), h5 35 (by omega) (by omega), h5 45 (by omega) (by omega)]
/-- the directions that are there, below n -/
def m_actN (J N : Nat → Nat → Int32) (n : Nat) : List Nat := (List.range n).filter (fun e => decide (¬ m_from J N e = -2))
def m_act (J N : Nat → Nat → Int32) : List Nat := m_actN J N 100
theorem m_actN_succ (J N : Nat → Nat → Int32) (n : Nat) : m_actN J N (n + 1) = m_actN J N n ++ (if m_from J N n = -2 then [] else [n]) := by
  unfold m_actN
  rw [List.range_succ, List.filter_append]
  by_cases h : m_from J N n = -2 <;> simp [h]
theorem m_actN_len (J N : Nat → Nat → Int32) (n : Nat) : (m_actN J N n).length ≤ n := by
  unfold m_actN
  exact Nat.le_trans (List.length_filter_le _ _) (by simp)
theorem m_actN_skip (J N : Nat → Nat → Int32) : ∀ (k n : Nat), (∀ e, n ≤ e → e < n + k → m_from J N e = -2) → m_actN J N (n + k) = m_actN J N n
  | 0, n, _ => rfl
  | k + 1, n, h => by
    rw [← Nat.add_assoc, m_actN_succ, if_pos (h (n + k) (by omega) (by omega)), List.append_nil]
    exact m_actN_skip J N k n (fun e a b => h e a (by omega))
theorem m_from_door {J N : Nat → Nat → Int32} {e : Nat} (h : 2 * m_nd J ≤ e) (h2 : e < 80) : m_from J N e = -2 := by
  unfold m_from
  rw [if_pos (by omega), if_pos (Or.inl (by omega))]
theorem m_from_stairs {J N : Nat → Nat → Int32} {e : Nat} (h : 2 * (40 + m_ns J) ≤ e) : m_from J N e = -2 := by
  unfold m_from
  rw [if_neg (by omega), if_pos (Or.inl (by omega))]
theorem m_actN_80 (J N : Nat → Nat → Int32) (h : m_nd J ≤ 40) : m_actN J N 80 = m_actN J N (2 * m_nd J) := by
  have := m_actN_skip J N (80 - 2 * m_nd J) (2 * m_nd J) (fun e a b => m_from_door a (by omega))
  rwa [show 2 * m_nd J + (80 - 2 * m_nd J) = 80 by omega] at this
theorem m_actN_100 (J N : Nat → Nat → Int32) (h : m_ns J ≤ 10) : m_act J N = m_actN J N (2 * (40 + m_ns J)) := by
  have := m_actN_skip J N (100 - 2 * (40 + m_ns J)) (2 * (40 + m_ns J)) (fun e a b => m_from_stairs a)
  rwa [show 2 * (40 + m_ns J) + (100 - 2 * (40 + m_ns J)) = 100 by omega] at this
theorem m_act_mem {J N : Nat → Nat → Int32} {e : Nat} : e ∈ m_act J N ↔ e < 100 ∧ ¬ m_from J N e = -2 := by
  simp [m_act, m_actN]
def m_row (g : Nat → Int32) (L : List Nat) : Nat → Int32 := fun k => match L[k]? with
  | some e => nI e
  | none => g k
theorem m_row_nil (g : Nat → Int32) : m_row g [] = g := by funext k; simp [m_row]
theorem m_row_app (g : Nat → Int32) (L : List Nat) (e : Nat) : upd (m_row g L) L.length (nI e) = m_row g (L ++ [e]) := by
  funext k
  unfold upd m_row
  by_cases h : k = L.length
  · subst h
    simp
  · rw [if_neg h]
    by_cases h2 : k < L.length
    · rw [List.getElem?_append_left h2]
    · rw [List.getElem?_eq_none (by omega), List.getElem?_eq_none (by simp; omega)]
theorem m_row_at {g : Nat → Int32} {L : List Nat} {k : Nat} (h : k < L.length) : m_row g L k = nI (L[k]) := by
  unfold m_row
  rw [List.getElem?_eq_getElem h]

