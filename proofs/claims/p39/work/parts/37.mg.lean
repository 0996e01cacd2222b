/-! how many ticks -/
def t_time (J N : Nat → Nat → Int32) (door : Int32) (w : Nat) : Nat → (Nat → Nat) → Nat
  | 0, _ => 0
  | n + 1, f => if t_any J N f (m_nr J) = true then t_time J N door w n (t_tick J N door w f) + 1 else 0
theorem t_time_le (J N : Nat → Nat → Int32) (door : Int32) (w : Nat) : ∀ n f, t_time J N door w n f ≤ n
  | 0, _ => Nat.le_refl _
  | n + 1, f => by
    rw [t_time]
    split
    · have := t_time_le J N door w n (t_tick J N door w f); omega
    · exact Nat.zero_le _
/-- more fuel than is needed changes nothing -/
theorem t_time_fuel {J N : Nat → Nat → Int32} {door : Int32} {w : Nat} (hmi : MI J N) (hw : door = -1 ∨ 1 ≤ w) : ∀ n f k, phi J N f < n → t_time J N door w (n + k) f = t_time J N door w n f
  | 0, f, k, h => absurd h (Nat.not_lt_zero _)
  | n + 1, f, k, h => by
    rw [show n + 1 + k = n + k + 1 by omega, t_time, t_time]
    by_cases q : t_any J N f (m_nr J) = true
    · rw [if_pos q, if_pos q]
      have hp := phi_tick (door := door) (w := w) hmi hw q
      rw [t_time_fuel hmi hw n _ k (by omega)]
    · rw [if_neg q, if_neg q]
theorem t_tick_sum {J N : Nat → Nat → Int32} {door : Int32} {w : Nat} {f : Nat → Nat} (hmi : MI J N) : sumN (t_tick J N door w f) 20 ≤ sumN f 20 := (t_mv_ok hmi (m_nr J) (Nat.le_refl _)).1
def g_p (J N : Nat → Nat → Int32) : Nat → Nat := fun k => if k < m_nr J ∧ ¬ N 23 k = -2 then (N 29 k).toNatClampNeg else 0
theorem g_in_p {J N : Nat → Nat → Int32} (hmi : MI J N) : g_in N (m_nr J) = fun k => nI (g_p J N k) := by
  funext k
  unfold g_in g_p
  by_cases q : k < m_nr J ∧ ¬ N 23 k = -2
  · rw [if_pos q, if_pos q]
    exact ((hmi.2.1 k q.1).2.2.2.2.2.2.eq (by decide)).1
  · rw [if_neg q, if_neg q]; rfl
theorem g_p_le {J N : Nat → Nat → Int32} (hmi : MI J N) (k : Nat) : g_p J N k ≤ 200 := by
  unfold g_p
  split
  · next q => exact ((hmi.2.1 k q.1).2.2.2.2.2.2.eq (by decide)).2.2
  · exact Nat.zero_le _
theorem sumN_bound {f : Nat → Nat} {b : Nat} (h : ∀ k, f k ≤ b) : ∀ n, sumN f n ≤ n * b
  | 0 => Nat.zero_le _
  | n + 1 => by
    have h1 := sumN_bound h n
    have h2 := h n
    rw [sumN, Nat.succ_mul]
    omega
theorem g_p_sum {J N : Nat → Nat → Int32} (hmi : MI J N) : sumN (g_p J N) 20 ≤ 4000 := sumN_bound (g_p_le hmi) 20
theorem ES.tout {J J2 N N2 : Nat → Nat → Int32} (h : ES J J2 N N2) : t_out J2 N2 = t_out J N := by funext r; unfold t_out; rw [h.deep, h.n (o := 23) (by decide)]
theorem ES.tgo {J J2 N N2 : Nat → Nat → Int32} (h : ES J J2 N N2) (door : Int32) (w : Nat) (f : Nat → Nat) : t_go J2 N2 door w f = t_go J N door w f := by
  funext r; unfold t_go t_fl; rw [h.tout, h.lea, h.n (o := 34) (by decide)]
theorem ES.tstep {J J2 N N2 : Nat → Nat → Int32} (h : ES J J2 N N2) : t_step N2 = t_step N := by funext l r g f; unfold t_step; rw [h.intof]
theorem ES.tmv {J J2 N N2 : Nat → Nat → Int32} (h : ES J J2 N N2) (g f : Nat → Nat) : ∀ n, t_mv J2 N2 g f n = t_mv J N g f n
  | 0 => rfl
  | n + 1 => by rw [t_mv, t_mv, h.tmv g f n, h.tstep, h.lea]
theorem ES.ttick {J J2 N N2 : Nat → Nat → Int32} (h : ES J J2 N N2) (door : Int32) (w : Nat) (f : Nat → Nat) : t_tick J2 N2 door w f = t_tick J N door w f := by
  unfold t_tick; rw [h.tgo, h.nr, h.tmv]
theorem ES.tany {J J2 N N2 : Nat → Nat → Int32} (h : ES J J2 N N2) (f : Nat → Nat) : ∀ n, t_any J2 N2 f n = t_any J N f n
  | 0 => rfl
  | n + 1 => by rw [t_any, t_any, h.tany f n, h.tout]
theorem SV.un {J N : Nat → Nat → Int32} (h : SV J N) (A : Nat → Int32) : SV J (zk_un N 53 A) := by
  have es : ES J J N (zk_un N 53 A) := ES.un (by decide)
  obtain ⟨h1, h2, h3⟩ := h
  unfold SV
  rw [es.act, es.ll, es.lea, es.bb, es.deep]
  exact ⟨h1, h2, h3⟩


