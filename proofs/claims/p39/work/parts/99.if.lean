/-! numbers behind the law's questions: people on their way out -/
theorem sumN_congr {f g : Nat → Nat} : ∀ {n}, (∀ r, r < n → f r = g r) → sumN f n = sumN g n
  | 0, _ => rfl
  | n + 1, h => by rw [sumN, sumN, sumN_congr (n := n) (fun r hr => h r (by omega)), h n (Nat.lt_succ_self n)]
theorem sumN_split (p : Nat → Bool) (f : Nat → Nat) : ∀ n, sumN f n = sumN (fun r => if p r = true then f r else 0) n + sumN (fun r => if p r = true then 0 else f r) n
  | 0 => rfl
  | n + 1 => by
    rw [sumN, sumN, sumN, sumN_split p f n]
    cases p n <;> simp <;> omega
section LN
variable {J N : Nat → Nat → Int32}
theorem t_out_mrd {r : Nat} (hr : r < m_nr J) (h : t_out J N r = true) : MR J N r ∧ ¬ g_deep J N r = -1 := by
  unfold t_out at h
  rw [Bool.and_eq_true] at h
  exact ⟨⟨hr, of_decide_eq_true h.1⟩, of_decide_eq_true h.2⟩
theorem t_out_next {r q : Nat} (hmi : MI J N) (hr : r < m_nr J) (h : t_out J N r = true) (hq : q < 20) (hi : m_into N (lea J N r) = nI q) : t_out J N q = true := by
  obtain ⟨h1, h2⟩ := t_out_mrd hr h
  have hr20 := h1.lt hmi
  have hl := t_out_lea hr20 h
  rcases ln_deep hmi h1 hl with w | ⟨w, -⟩ | ⟨q2, t, q1, q2n, q3, t1, t2, t3, t4⟩
  · exact absurd w h2
  · rw [w] at hi; exact absurd hi.symm (nI_ne1 (by omega))
  · have q20 := q1.lt hmi
    rw [q3, n_inj (by omega) (by omega)] at hi
    subst hi
    unfold t_out
    rw [decide_eq_true q1.2, t3, decide_eq_true (nI_ne1 (by omega))]
    rfl
theorem t_mv_stay {f : Nat → Nat} {door : Int32} {w k : Nat} (hmi : MI J N) (hk : t_out J N k = false) : ∀ n, n ≤ m_nr J → t_mv J N (t_go J N door w f) f n k = f k
  | 0, _ => rfl
  | n + 1, h => by
    have ih := t_mv_stay (f := f) (door := door) (w := w) hmi hk n (by omega)
    rw [t_mv]
    split
    · exact ih
    · next q =>
      have ho := t_go_out q
      have hx := (t_next hmi (by omega) ho).2
      have hn : k ≠ n := fun z => by rw [z, ho] at hk; cases hk
      unfold t_step
      rcases hx with hx | ⟨p, q1, q2, q3⟩
      · rw [if_pos hx, updN_ne _ _ hn]; exact ih
      · have := q1.lt hmi
        have hp := t_out_next hmi (by omega) ho this q3
        have hn2 : k ≠ p := fun z => by rw [z, hp] at hk; cases hk
        rw [q3, if_neg (nI_ne1 (by omega)), n_cl (by omega), updN_ne _ _ hn2, updN_ne _ _ hn]; exact ih
theorem t_beh_stay {k : Nat} (hmi : MI J N) (hk : t_out J N k = false) : ∀ n f, t_beh J N n f k = f k
  | 0, _ => rfl
  | n + 1, f => by
    rw [t_beh, t_beh_stay hmi hk n]
    exact t_mv_stay hmi hk _ (Nat.le_refl _)
theorem t_beh_succ : ∀ n f, t_beh J N (n + 1) f = t_tick J N (-1) 0 (t_beh J N n f)
  | 0, _ => rfl
  | n + 1, f => by
    rw [t_beh, t_beh_succ n, t_beh]
theorem t_time_any : ∀ n f T, t_time J N (-1) 0 n f = T → T < n → t_any J N (t_beh J N T f) (m_nr J) = false ∧ ∀ i, i < T → t_any J N (t_beh J N i f) (m_nr J) = true
  | 0, _, _, _, h => absurd h (Nat.not_lt_zero _)
  | n + 1, f, T, h, hT => by
    rw [t_time] at h
    cases q : t_any J N f (m_nr J) with
    | false =>
      rw [q, if_neg (by decide)] at h
      subst h
      exact ⟨q, fun i hi => absurd hi (Nat.not_lt_zero i)⟩
    | true =>
      rw [q, if_pos rfl] at h
      subst h
      obtain ⟨h1, h2⟩ := t_time_any n (t_tick J N (-1) 0 f) _ rfl (by omega)
      refine ⟨h1, fun i hi => ?_⟩
      match i, hi with
      | 0, _ => exact q
      | i + 1, hi => exact h2 i (by omega)
theorem t_any_none {f : Nat → Nat} : ∀ {n}, t_any J N f n = false → sumN (fun r => if t_out J N r = true then f r else 0) n = 0
  | 0, _ => rfl
  | n + 1, h => by
    rw [t_any, Bool.or_eq_false_iff] at h
    rw [sumN, t_any_none h.1]
    have h2 := h.2
    cases ho : t_out J N n with
    | false => rfl
    | true =>
      rw [ho, Bool.true_and] at h2
      have := of_decide_eq_false h2
      simp only [if_true]
      omega
/-- who stays for ever in a room -/
def ln_sp (J N : Nat → Nat → Int32) (r : Nat) : Nat := if g_deep J N r < 0 then g_p J N r else 0
theorem ln_neg {r : Nat} : g_deep J N r < 0 ↔ g_deep J N r = -1 := by
  rcases g_dep_cases J N 21 (nI r) 0 with h | ⟨t, -, h2, h3⟩
  · have h : g_deep J N r = -1 := h
    rw [h]
    exact ⟨fun _ => rfl, fun _ => by decide⟩
  · have h3 : g_deep J N r = nI t := h3
    rw [h3]
    exact ⟨fun w => absurd w (nI_nlt (b := 0) (by omega) (by omega)), fun w => absurd w (nI_ne1 (by omega))⟩
theorem ln_sp_eq (r : Nat) : (if t_out J N r = true then 0 else g_p J N r) = ln_sp J N r := by
  unfold ln_sp
  by_cases h1 : N 23 r = -2
  · have e : g_p J N r = 0 := by unfold g_p; rw [if_neg (fun w => w.2 h1)]
    rw [e]
    split <;> split <;> rfl
  · by_cases h2 : g_deep J N r = -1
    · have e : t_out J N r = false := by unfold t_out; rw [decide_eq_false (p := ¬ g_deep J N r = -1) (fun w => w h2), Bool.and_false]
      rw [e, if_neg (by decide), if_pos (ln_neg.mpr h2)]
    · have e : t_out J N r = true := by unfold t_out; rw [decide_eq_true h1, decide_eq_true h2]; rfl
      rw [e, if_pos rfl, if_neg (fun w => h2 (ln_neg.mp w))]
theorem ln_20 {f : Nat → Nat} (hmi : MI J N) (hf : OZ J f) : sumN f 20 = sumN f (m_nr J) := by
  have h := sumN_oz hf (20 - m_nr J)
  have := hmi.1.1.2
  rwa [show m_nr J + (20 - m_nr J) = 20 by omega] at h
theorem ln_left0 (hmi : MI J N) : a_left J N 0 = nI (sumN (g_p J N) (m_nr J)) := by
  unfold a_left
  rw [show t_beh J N 0 (g_p J N) = g_p J N from rfl, ln_20 hmi (g_p_oz J N)]
theorem ln_rest (hmi : MI J N) (n : Nat) : sumN (fun r => if t_out J N r = true then 0 else t_beh J N n (g_p J N) r) (m_nr J) = sumN (ln_sp J N) (m_nr J) := by
  refine sumN_congr fun r _ => ?_
  rw [← ln_sp_eq r]
  cases ho : t_out J N r with
  | true => rfl
  | false => rw [if_neg (by decide), if_neg (by decide), t_beh_stay hmi ho]
theorem ln_leftT (hmi : MI J N) {T : Nat} (hT : t_time J N (-1) 0 1000000 (g_p J N) = T) (h : T < 1000000) : a_left J N T = nI (sumN (ln_sp J N) (m_nr J)) := by
  unfold a_left
  rw [ln_20 hmi (t_beh_oz hmi _ _ (g_p_oz J N)), sumN_split (t_out J N), t_any_none (t_time_any _ _ _ hT h).1, ln_rest hmi, Nat.zero_add]
theorem ln_bound (hmi : MI J N) (n : Nat) : sumN (t_beh J N n (g_p J N)) 20 ≤ 4000 := Nat.le_trans (t_beh_sum hmi n _) (g_p_sum hmi)
theorem ln_leftB (hmi : MI J N) {T : Nat} (hT : t_time J N (-1) 0 1000000 (g_p J N) = T) (h : T < 1000000) (h0 : 0 < T) : ∃ m, a_left J N (T - 1) = nI m ∧ sumN (ln_sp J N) (m_nr J) < m ∧ m ≤ 4000 := by
  refine ⟨_, rfl, ?_, ln_bound hmi _⟩
  obtain ⟨r, r1, r2, r3⟩ := t_any_ex ((t_time_any _ _ _ hT h).2 (T - 1) (by omega))
  rw [ln_20 hmi (t_beh_oz hmi _ _ (g_p_oz J N)), sumN_split (t_out J N) (t_beh J N (T - 1) (g_p J N)), ln_rest hmi]
  have := sumN_le (f := fun r => if t_out J N r = true then t_beh J N (T - 1) (g_p J N) r else 0) r1
  rw [if_pos r2] at this
  omega
theorem ln_stuck (hmi : MI J N) : ∀ n, sumN (ln_sp J N) n ≤ sumN (g_p J N) n
  | 0 => Nat.le_refl _
  | n + 1 => by
    have := ln_stuck hmi n
    have e : ln_sp J N n ≤ g_p J N n := by unfold ln_sp; split <;> omega
    rw [sumN, sumN]
    omega
theorem sumN_mono {f : Nat → Nat} : ∀ {n m}, n ≤ m → sumN f n ≤ sumN f m
  | n, 0, h => by rw [Nat.le_zero.mp h]; exact Nat.le_refl _
  | n, m + 1, h => by
    rcases Nat.lt_or_ge m n with q | q
    · rw [show n = m + 1 by omega]; exact Nat.le_refl _
    · rw [sumN]
      have := sumN_mono (f := f) q
      omega
theorem ln_all (hmi : MI J N) {n : Nat} (hn : n ≤ 20) : sumN (g_p J N) n ≤ 4000 := Nat.le_trans (sumN_mono hn) (g_p_sum hmi)
/-- nobody is in a room that is gone -/
theorem ln_gone (hmi : MI J N) {r : Nat} (h : N 23 r = -2) (n : Nat) : t_beh J N n (g_p J N) r = 0 := by
  have e : t_out J N r = false := by unfold t_out; rw [decide_eq_false (p := ¬ N 23 r = -2) (fun w => w h), Bool.false_and]
  rw [t_beh_stay hmi e]
  unfold g_p
  rw [if_neg (fun w => w.2 h)]
theorem ln_leftN (hmi : MI J N) (n : Nat) : a_left J N n = nI (sumN (t_beh J N n (g_p J N)) (m_nr J)) := by
  unfold a_left
  rw [ln_20 hmi (t_beh_oz hmi _ _ (g_p_oz J N))]
theorem ln_fall (hmi : MI J N) (n : Nat) : sumN (t_beh J N (n + 1) (g_p J N)) (m_nr J) ≤ sumN (t_beh J N n (g_p J N)) (m_nr J) := by
  rw [← ln_20 hmi (t_beh_oz hmi (n + 1) _ (g_p_oz J N)), ← ln_20 hmi (t_beh_oz hmi n _ (g_p_oz J N)), t_beh_succ]
  exact t_tick_sum hmi
/-- at its own width a door changes nothing -/
theorem ln_fl {d : Nat} (hd : d < 40) (k : Nat) : t_fl N (nI d) (N 34 d).toNatClampNeg k = t_fl N (-1) 0 k := by
  unfold t_fl
  by_cases h : k < 40
  · rw [if_pos h, if_pos h, if_neg (show ¬ nI k = -1 from nI_ne1 (by omega))]
    by_cases q : k = d
    · subst q; rw [if_pos rfl]
    · rw [if_neg (by rw [n_inj (by omega) (by omega)]; exact q)]
  · rw [if_neg h, if_neg h]
theorem ln_wide {d : Nat} (hd : d < 40) : a_time J N (nI d) (N 34 d).toNatClampNeg = a_time J N (-1) 0 := by
  have e1 : t_go J N (nI d) (N 34 d).toNatClampNeg = t_go J N (-1) 0 := by
    funext f r
    unfold t_go
    rw [ln_fl hd]
  have e2 : t_tick J N (nI d) (N 34 d).toNatClampNeg = t_tick J N (-1) 0 := by
    funext f
    unfold t_tick
    rw [e1]
  have e3 : ∀ n f, t_time J N (nI d) (N 34 d).toNatClampNeg n f = t_time J N (-1) 0 n f := by
    intro n
    induction n with
    | zero => intro f; rfl
    | succ n ih => intro f; rw [t_time, t_time, e2, ih]
  unfold a_time
  rw [e3]
end LN

