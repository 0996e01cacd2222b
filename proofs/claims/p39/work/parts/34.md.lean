/-! time, in numbers -/
def updN (f : Nat → Nat) (k v : Nat) : Nat → Nat := fun j => if j = k then v else f j
theorem updN_self (f : Nat → Nat) (k v : Nat) : updN f k v k = v := by unfold updN; rw [if_pos rfl]
theorem updN_ne (f : Nat → Nat) {k j : Nat} (v : Nat) (h : j ≠ k) : updN f k v j = f j := by unfold updN; rw [if_neg h]
theorem upd_nI (f : Nat → Nat) (k v : Nat) : upd (fun j => nI (f j)) k (nI v) = fun j => nI (updN f k v j) := by
  funext j
  unfold upd updN
  split <;> rfl
/-- a room one comes out of -/
def t_out (J N : Nat → Nat → Int32) (r : Nat) : Bool := decide (¬ N 23 r = -2) && decide (¬ g_deep J N r = -1)
def t_fl (N : Nat → Nat → Int32) (door : Int32) (w k : Nat) : Nat := if k < 40 then 2 * (if nI k = door then w else (N 34 k).toNatClampNeg) else 3
def t_go (J N : Nat → Nat → Int32) (door : Int32) (w : Nat) (f : Nat → Nat) (r : Nat) : Nat := if t_out J N r = true then min (f r) (t_fl N door w (lea J N r / 2)) else 0
def t_step (N : Nat → Nat → Int32) (l r g : Nat) (f : Nat → Nat) : Nat → Nat := if m_into N l = -1 then updN f r (f r - g) else updN (updN f r (f r - g)) (m_into N l).toNatClampNeg (updN f r (f r - g) (m_into N l).toNatClampNeg + g)
def t_mv (J N : Nat → Nat → Int32) (g : Nat → Nat) (f : Nat → Nat) : Nat → Nat → Nat
  | 0 => f
  | n + 1 => if g n = 0 then t_mv J N g f n else t_step N (lea J N n) n (g n) (t_mv J N g f n)
def t_tick (J N : Nat → Nat → Int32) (door : Int32) (w : Nat) (f : Nat → Nat) : Nat → Nat := t_mv J N (t_go J N door w f) f (m_nr J)
def t_any (J N : Nat → Nat → Int32) (f : Nat → Nat) : Nat → Bool
  | 0 => false
  | n + 1 => t_any J N f n || (t_out J N n && decide (0 < f n))
def sumN (f : Nat → Nat) : Nat → Nat
  | 0 => 0
  | n + 1 => sumN f n + f n
theorem sumN_upd_ge {f : Nat → Nat} {k v : Nat} : ∀ {n}, n ≤ k → sumN (updN f k v) n = sumN f n
  | 0, _ => rfl
  | n + 1, h => by rw [sumN, sumN, sumN_upd_ge (by omega), updN_ne _ _ (by omega)]
theorem sumN_upd {f : Nat → Nat} {k v : Nat} : ∀ {n}, k < n → sumN (updN f k v) n + f k = sumN f n + v
  | 0, h => absurd h (Nat.not_lt_zero _)
  | n + 1, h => by
    rw [sumN, sumN]
    by_cases q : k = n
    · subst q
      rw [sumN_upd_ge (Nat.le_refl _), updN_self]
      omega
    · have := sumN_upd (f := f) (v := v) (show k < n by omega)
      rw [updN_ne _ _ (by omega)]
      omega
theorem sumN_le {f : Nat → Nat} {k : Nat} : ∀ {n}, k < n → f k ≤ sumN f n
  | 0, h => absurd h (Nat.not_lt_zero _)
  | n + 1, h => by
    rw [sumN]
    by_cases q : k = n
    · subst q; omega
    · have := sumN_le (f := f) (show k < n by omega); omega
theorem t_out_lea {J N : Nat → Nat → Int32} {r : Nat} (hr : r < 20) (h : t_out J N r = true) : ¬ lea J N r = 100 := by
  intro q
  unfold t_out at h
  rw [Bool.and_eq_true] at h
  refine of_decide_eq_true h.2 ?_
  unfold g_deep g_dep
  rw [if_neg (nI_ne1 (by omega)), n_cl (by omega), if_pos q]
theorem t_go_le (J N : Nat → Nat → Int32) (door : Int32) (w : Nat) (f : Nat → Nat) (r : Nat) : t_go J N door w f r ≤ f r := by
  unfold t_go
  split
  · exact Nat.min_le_left _ _
  · exact Nat.zero_le _
theorem t_go_out {J N : Nat → Nat → Int32} {door : Int32} {w : Nat} {f : Nat → Nat} {r : Nat} (h : ¬ t_go J N door w f r = 0) : t_out J N r = true := by
  cases q : t_out J N r with
  | true => rfl
  | false => exact absurd (by unfold t_go; rw [if_neg (by rw [q]; decide)]) h
/-- where a room that one comes out of leads -/
theorem t_next {J N : Nat → Nat → Int32} {r : Nat} (hmi : MI J N) (hr : r < m_nr J) (h : t_out J N r = true) : lea J N r ∈ m_act J N ∧ (m_into N (lea J N r) = -1 ∨ ∃ q, MR J N q ∧ q ≠ r ∧ m_into N (lea J N r) = nI q) := by
  have hr20 : r < 20 := Nat.lt_of_lt_of_le hr hmi.1.1.2
  have ha := lea_act (t_out_lea hr20 h)
  obtain ⟨r2, a1, a2, a3⟩ := m_ends hmi ha.1
  rw [ha.2.1, n_inj (by omega) (by have := a1.lt hmi; omega)] at a2
  subst a2
  exact ⟨ha.1, a3⟩
theorem t_step_ok {N : Nat → Nat → Int32} {l r g : Nat} {f : Nat → Nat} (hr : r < 20) (hg : g ≤ f r) (h : m_into N l = -1 ∨ ∃ q, q < 20 ∧ q ≠ r ∧ m_into N l = nI q) :
    sumN (t_step N l r g f) 20 ≤ sumN f 20 ∧ ∀ k, k ≠ r → f k ≤ t_step N l r g f k := by
  unfold t_step
  have h1 := sumN_upd (f := f) (k := r) (v := f r - g) (n := 20) hr
  rcases h with h | ⟨q, q1, q2, q3⟩
  · rw [if_pos h]
    exact ⟨by omega, fun k hk => by rw [updN_ne _ _ hk]; exact Nat.le_refl _⟩
  · rw [q3, if_neg (nI_ne1 (by omega)), n_cl (by omega)]
    have h2 := sumN_upd (f := updN f r (f r - g)) (k := q) (v := updN f r (f r - g) q + g) (n := 20) q1
    refine ⟨by omega, fun k hk => ?_⟩
    by_cases w : k = q
    · subst w
      rw [updN_self, updN_ne _ _ hk]
      omega
    · rw [updN_ne _ _ w, updN_ne _ _ hk]
      exact Nat.le_refl _
theorem t_mv_ok {J N : Nat → Nat → Int32} {door : Int32} {w : Nat} {f : Nat → Nat} (hmi : MI J N) : ∀ n, n ≤ m_nr J →
    sumN (t_mv J N (t_go J N door w f) f n) 20 ≤ sumN f 20 ∧ ∀ r, n ≤ r → f r ≤ t_mv J N (t_go J N door w f) f n r
  | 0, _ => ⟨Nat.le_refl _, fun _ _ => Nat.le_refl _⟩
  | n + 1, h => by
    obtain ⟨h1, h2⟩ := t_mv_ok hmi n (by omega)
    have hn20 : n < 20 := by have := hmi.1.1.2; omega
    rw [t_mv]
    by_cases q : t_go J N door w f n = 0
    · rw [if_pos q]
      exact ⟨h1, fun r hr => h2 r (by omega)⟩
    · rw [if_neg q]
      have hx := (t_next hmi (by omega) (t_go_out q)).2
      have ho := t_step_ok (N := N) (l := lea J N n) (r := n) (g := t_go J N door w f n) (f := t_mv J N (t_go J N door w f) f n) hn20 (Nat.le_trans (t_go_le J N door w f n) (h2 n (Nat.le_refl _)))
        (hx.elim Or.inl (fun ⟨q, q1, q2, q3⟩ => Or.inr ⟨q, q1.lt hmi, q2, q3⟩))
      exact ⟨Nat.le_trans ho.1 h1, fun r hr => Nat.le_trans (h2 r (by omega)) (ho.2 r (by omega))⟩


