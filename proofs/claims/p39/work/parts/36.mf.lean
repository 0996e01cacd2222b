/-! time ends: the depths, weighed, fall -/
theorem g_dep_eq (J N : Nat → Nat → Int32) (f : Nat) (r : Int32) (m : Nat) : g_dep J N (f + 1) r m = if r = -1 then nI m else if lea J N r.toNatClampNeg = 100 then -1 else g_dep J N f (m_into N (lea J N r.toNatClampNeg)) (m + 1) := rfl
theorem g_dep_shift (J N : Nat → Nat → Int32) : ∀ f r, (∀ m, g_dep J N f r m = -1) ∨ ∃ t, t < f ∧ ∀ m, g_dep J N f r m = nI (t + m)
  | 0, _ => Or.inl fun _ => rfl
  | f + 1, r => by
    by_cases q : r = -1
    · exact Or.inr ⟨0, Nat.succ_pos _, fun m => by rw [g_dep_eq, if_pos q, Nat.zero_add]⟩
    · by_cases q2 : lea J N r.toNatClampNeg = 100
      · exact Or.inl fun m => by rw [g_dep_eq, if_neg q, if_pos q2]
      · rcases g_dep_shift J N f (m_into N (lea J N r.toNatClampNeg)) with h | ⟨t, h1, h2⟩
        · exact Or.inl fun m => by rw [g_dep_eq, if_neg q, if_neg q2]; exact h _
        · exact Or.inr ⟨t + 1, by omega, fun m => by rw [g_dep_eq, if_neg q, if_neg q2, h2]; congr 1; omega⟩
theorem g_dep_more (J N : Nat → Nat → Int32) : ∀ f r m, ¬ g_dep J N f r m = -1 → g_dep J N (f + 1) r m = g_dep J N f r m
  | 0, _, _, h => absurd rfl h
  | f + 1, r, m, h => by
    rw [g_dep_eq J N (f + 1) r m, g_dep_eq J N f r m]
    rw [g_dep_eq J N f r m] at h
    by_cases q : r = -1
    · rw [if_pos q, if_pos q]
    · rw [if_neg q] at h
      rw [if_neg q, if_neg q]
      by_cases q2 : lea J N r.toNatClampNeg = 100
      · rw [if_pos q2] at h; exact absurd rfl h
      · rw [if_neg q2] at h
        rw [if_neg q2, if_neg q2]
        exact g_dep_more J N f _ (m + 1) h
/-- the next room's depth is one less -/
theorem g_deep_next {J N : Nat → Nat → Int32} {r : Nat} (hr : r < 20) (h : ¬ g_deep J N r = -1) : ∃ t, t < 20 ∧ g_deep J N r = nI (t + 1) ∧ (m_into N (lea J N r) = -1 ∨ g_dep J N 21 (m_into N (lea J N r)) 0 = nI t) := by
  unfold g_deep at h ⊢
  rw [g_dep_eq, if_neg (nI_ne1 (by omega)), n_cl (by omega)] at h ⊢
  by_cases q : lea J N r = 100
  · rw [if_pos q] at h; exact absurd rfl h
  · rw [if_neg q] at h ⊢
    rcases g_dep_shift J N 20 (m_into N (lea J N r)) with w | ⟨t, w1, w2⟩
    · exact absurd (w _) h
    · refine ⟨t, w1, w2 1, Or.inr ?_⟩
      rw [g_dep_more _ _ _ _ _ (by rw [w2]; exact nI_ne1 (by omega)), w2]
      rfl
def dpN (J N : Nat → Nat → Int32) (r : Nat) : Nat := if t_out J N r = true then (g_deep J N r).toNatClampNeg else 0
def phi (J N : Nat → Nat → Int32) (f : Nat → Nat) : Nat := sumN (fun k => f k * dpN J N k) 20
theorem phi_upd {J N : Nat → Nat → Int32} {f : Nat → Nat} {r v : Nat} (hr : r < 20) : phi J N (updN f r v) + f r * dpN J N r = phi J N f + v * dpN J N r := by
  have e : (fun k => updN f r v k * dpN J N k) = updN (fun k => f k * dpN J N k) r (v * dpN J N r) := by
    funext k
    unfold updN
    split
    · next h => rw [h]
    · rfl
  unfold phi
  rw [e]
  exact sumN_upd hr
theorem phi_step {J N : Nat → Nat → Int32} {r g : Nat} {f : Nat → Nat} (hmi : MI J N) (hr : r < m_nr J) (ho : t_out J N r = true) (hg : g ≤ f r) : phi J N (t_step N (lea J N r) r g f) + g ≤ phi J N f := by
  have hr20 : r < 20 := Nat.lt_of_lt_of_le hr hmi.1.1.2
  have hd : ¬ g_deep J N r = -1 := by
    unfold t_out at ho
    rw [Bool.and_eq_true] at ho
    exact of_decide_eq_true ho.2
  obtain ⟨t, t1, t2, t3⟩ := g_deep_next hr20 hd
  have hdr : dpN J N r = t + 1 := by unfold dpN; rw [if_pos ho, t2, n_cl (by omega)]
  have h1 := phi_upd (J := J) (N := N) (f := f) (r := r) (v := f r - g) hr20
  rw [hdr, Nat.sub_mul] at h1
  have h2 : g * (t + 1) ≤ f r * (t + 1) := Nat.mul_le_mul_right _ hg
  have h3 : g ≤ g * (t + 1) := Nat.le_mul_of_pos_right g (Nat.succ_pos t)
  unfold t_step
  by_cases q : m_into N (lea J N r) = -1
  · rw [if_pos q]; omega
  · rw [if_neg q]
    rcases (t_next hmi hr ho).2 with w | ⟨q2, q3, q4, q5⟩
    · exact absurd w q
    · have hq20 := q3.lt hmi
      have t4 : g_dep J N 21 (m_into N (lea J N r)) 0 = nI t := t3.resolve_left q
      rw [q5] at t4
      have hdq : dpN J N q2 = t := by
        have ho2 : t_out J N q2 = true := by
          unfold t_out
          rw [decide_eq_true q3.2, decide_eq_true (show ¬ g_deep J N q2 = -1 by unfold g_deep; rw [t4]; exact nI_ne1 (by omega))]
          rfl
        unfold dpN g_deep
        rw [if_pos ho2, t4, n_cl (by omega)]
      rw [q5, n_cl (by omega)]
      have h4 := phi_upd (J := J) (N := N) (f := updN f r (f r - g)) (r := q2) (v := updN f r (f r - g) q2 + g) hq20
      rw [hdq, Nat.add_mul] at h4
      have h5 : g * (t + 1) = g * t + g := Nat.mul_succ g t
      omega
theorem phi_mv {J N : Nat → Nat → Int32} {door : Int32} {w : Nat} {f : Nat → Nat} (hmi : MI J N) : ∀ n, n ≤ m_nr J → phi J N (t_mv J N (t_go J N door w f) f n) + sumN (t_go J N door w f) n ≤ phi J N f
  | 0, _ => Nat.le_refl _
  | n + 1, h => by
    have ih := phi_mv (door := door) (w := w) (f := f) hmi n (by omega)
    rw [t_mv, sumN]
    by_cases q : t_go J N door w f n = 0
    · rw [if_pos q]; omega
    · rw [if_neg q]
      have h2 := phi_step (g := t_go J N door w f n) (f := t_mv J N (t_go J N door w f) f n) hmi (show n < m_nr J by omega) (t_go_out q) (Nat.le_trans (t_go_le J N door w f n) ((t_mv_ok hmi n (by omega)).2 n (Nat.le_refl _)))
      omega
theorem t_any_ex {J N : Nat → Nat → Int32} {f : Nat → Nat} : ∀ {n}, t_any J N f n = true → ∃ r, r < n ∧ t_out J N r = true ∧ 0 < f r
  | 0, h => absurd (show false = true from h) (by decide)
  | n + 1, h => by
    rw [t_any, Bool.or_eq_true, Bool.and_eq_true] at h
    rcases h with h | ⟨h1, h2⟩
    · obtain ⟨r, h1, h2⟩ := t_any_ex h
      exact ⟨r, by omega, h2⟩
    · exact ⟨n, Nat.lt_succ_self n, h1, of_decide_eq_true h2⟩
/-- each tick in which one can go, the weighed depths fall -/
theorem phi_tick {J N : Nat → Nat → Int32} {door : Int32} {w : Nat} {f : Nat → Nat} (hmi : MI J N) (hw : door = -1 ∨ 1 ≤ w) (h : t_any J N f (m_nr J) = true) : phi J N (t_tick J N door w f) < phi J N f := by
  obtain ⟨r, hr, ho, hf⟩ := t_any_ex h
  have h1 := phi_mv (door := door) (w := w) (f := f) hmi (m_nr J) (Nat.le_refl _)
  have h2 := sumN_le (f := t_go J N door w f) hr
  have h3 : 0 < t_go J N door w f r := by
    have ha := (t_next hmi hr ho).1
    have he := (m_act_mem.mp ha).1
    unfold t_go
    rw [if_pos ho]
    have : 0 < t_fl N door w (lea J N r / 2) := by
      unfold t_fl
      by_cases k40 : lea J N r / 2 < 40
      · rw [if_pos k40]
        have hv := (hmi.2.2.1 _ (act_nd ha k40)).2.2.2.1.eq (by decide)
        by_cases q : nI (lea J N r / 2) = door
        · rw [if_pos q]
          rcases hw with w1 | w1
          · rw [w1] at q; exact absurd q (nI_ne1 (by omega))
          · omega
        · rw [if_neg q]; omega
      · rw [if_neg k40]; decide
    omega
  show phi J N (t_mv J N (t_go J N door w f) f (m_nr J)) < phi J N f
  omega


