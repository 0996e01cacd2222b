/-! the reference: timeNow, behind, leftNow -/
theorem dpN_le (J N : Nat → Nat → Int32) (r : Nat) : dpN J N r ≤ 20 := by
  unfold dpN
  split
  · rcases g_dep_cases J N 21 (nI r) 0 with h | ⟨t, h1, h2, h3⟩
    · rw [show g_deep J N r = -1 from h]; decide
    · rw [show g_deep J N r = nI t from h3, n_cl (by omega)]; omega
  · omega
theorem phi_p {J N : Nat → Nat → Int32} (hmi : MI J N) : phi J N (g_p J N) < 1000000 := by
  have h := sumN_bound (f := fun k => g_p J N k * dpN J N k) (b := 200 * 20) (fun k => Nat.mul_le_mul (g_p_le hmi k) (dpN_le J N k)) 20
  unfold phi
  omega
def a_time (J N : Nat → Nat → Int32) (door : Int32) (w : Nat) : Int32 := nI (t_time J N door w 1000000 (g_p J N))
theorem ES.ttime {J J2 N N2 : Nat → Nat → Int32} (h : ES J J2 N N2) (door : Int32) (w : Nat) : ∀ n f, t_time J2 N2 door w n f = t_time J N door w n f
  | 0, _ => rfl
  | n + 1, f => by rw [t_time, t_time, h.tany, h.ttick, h.ttime door w n, h.nr]
theorem ES.gp {J J2 N N2 : Nat → Nat → Int32} (h : ES J J2 N N2) : g_p J2 N2 = g_p J N := by
  funext k; unfold g_p; rw [h.nr, h.n (o := 23) (by decide), h.n (o := 29) (by decide)]
theorem ES.a7 {J J2 N N2 : Nat → Nat → Int32} (h : ES J J2 N N2) : a_time J2 N2 = a_time J N := by
  funext d w; unfold a_time; rw [h.ttime, h.gp]

