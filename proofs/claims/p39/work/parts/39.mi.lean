/-! the reference: behind, leftNow, left, inRoom, timeOut -/
theorem t_go_none {J N : Nat → Nat → Int32} {door : Int32} {w : Nat} {f : Nat → Nat} : ∀ {n}, t_any J N f n = false → ∀ r, r < n → t_go J N door w f r = 0
  | 0, _, r, h => absurd h (Nat.not_lt_zero r)
  | n + 1, h, r, hr => by
    rw [t_any, Bool.or_eq_false_iff] at h
    rcases Nat.lt_succ_iff_lt_or_eq.mp hr with q | q
    · exact t_go_none h.1 r q
    · subst q
      unfold t_go
      cases ho : t_out J N r with
      | false => rfl
      | true =>
        rw [ho, Bool.true_and] at h
        have := of_decide_eq_false h.2
        rw [if_pos rfl]
        omega
theorem t_mv_none {J N : Nat → Nat → Int32} {g f : Nat → Nat} : ∀ n, (∀ r, r < n → g r = 0) → t_mv J N g f n = f
  | 0, _ => rfl
  | n + 1, h => by rw [t_mv, if_pos (h n (Nat.lt_succ_self n)), t_mv_none n (fun r hr => h r (by omega))]
theorem t_tick_none {J N : Nat → Nat → Int32} {door : Int32} {w : Nat} {f : Nat → Nat} (h : t_any J N f (m_nr J) = false) : t_tick J N door w f = f := t_mv_none _ (t_go_none h)
def t_beh (J N : Nat → Nat → Int32) : Nat → (Nat → Nat) → Nat → Nat
  | 0, f => f
  | n + 1, f => t_beh J N n (t_tick J N (-1) 0 f)
theorem t_beh_none {J N : Nat → Nat → Int32} : ∀ n f, t_any J N f (m_nr J) = false → t_beh J N n f = f
  | 0, _, _ => rfl
  | n + 1, f, h => by rw [t_beh, t_tick_none h, t_beh_none n f h]
theorem ES.beh {J J2 N N2 : Nat → Nat → Int32} (h : ES J J2 N N2) : ∀ n f, t_beh J2 N2 n f = t_beh J N n f
  | 0, _ => rfl
  | n + 1, f => by rw [t_beh, t_beh, h.ttick, h.beh n]
theorem t_beh_sum {J N : Nat → Nat → Int32} (hmi : MI J N) : ∀ n f, sumN (t_beh J N n f) 20 ≤ sumN f 20
  | 0, _ => Nat.le_refl _
  | n + 1, f => Nat.le_trans (t_beh_sum hmi n _) (t_tick_sum hmi)
/-- nobody is where no room is -/
def OZ (J : Nat → Nat → Int32) (f : Nat → Nat) : Prop := ∀ k, m_nr J ≤ k → f k = 0
theorem t_mv_oz {J N : Nat → Nat → Int32} {door : Int32} {w : Nat} {f : Nat → Nat} (hmi : MI J N) (hf : OZ J f) : ∀ n, n ≤ m_nr J → OZ J (t_mv J N (t_go J N door w f) f n)
  | 0, _ => hf
  | n + 1, h => by
    have ih := t_mv_oz (door := door) (w := w) hmi hf n (by omega)
    rw [t_mv]
    split
    · exact ih
    · next q =>
      intro k hk
      have hx := (t_next hmi (by omega) (t_go_out q)).2
      unfold t_step
      rcases hx with hx | ⟨q, q1, q2, q3⟩
      · rw [if_pos hx, updN_ne _ _ (by omega)]; exact ih k hk
      · have := q1.lt hmi
        have := q1.1
        rw [q3, if_neg (nI_ne1 (by omega)), n_cl (by omega), updN_ne _ _ (by omega), updN_ne _ _ (by omega)]; exact ih k hk
theorem t_tick_oz {J N : Nat → Nat → Int32} {door : Int32} {w : Nat} {f : Nat → Nat} (hmi : MI J N) (hf : OZ J f) : OZ J (t_tick J N door w f) := t_mv_oz hmi hf _ (Nat.le_refl _)
theorem t_beh_oz {J N : Nat → Nat → Int32} (hmi : MI J N) : ∀ n f, OZ J f → OZ J (t_beh J N n f)
  | 0, _, h => h
  | n + 1, f, h => t_beh_oz hmi n _ (t_tick_oz hmi h)
theorem g_p_oz (J N : Nat → Nat → Int32) : OZ J (g_p J N) := fun k hk => by unfold g_p; rw [if_neg (by omega)]
theorem sumN_oz {J : Nat → Nat → Int32} {f : Nat → Nat} (h : OZ J f) : ∀ m, sumN f (m_nr J + m) = sumN f (m_nr J)
  | 0 => rfl
  | m + 1 => by rw [← Nat.add_assoc, sumN, sumN_oz h m, h _ (by omega)]; rfl
def a_inR (J N : Nat → Nat → Int32) (t j : Nat) : Int32 := nI (t_beh J N t (g_p J N) j)
def a_left (J N : Nat → Nat → Int32) (t : Nat) : Int32 := nI (sumN (t_beh J N t (g_p J N)) 20)
theorem ES.a8 {J J2 N N2 : Nat → Nat → Int32} (h : ES J J2 N N2) : a_inR J2 N2 = a_inR J N := by funext t j; unfold a_inR; rw [h.beh, h.gp]
theorem ES.a9 {J J2 N N2 : Nat → Nat → Int32} (h : ES J J2 N N2) : a_left J2 N2 = a_left J N := by funext t; unfold a_left; rw [h.beh, h.gp]
/-- what every question's end keeps -/
def ZQ (σ : zk_S) (sz : Nat) (t : Int32) (v : Option Value) (P : zk_P zk_S) : Prop := ∀ J2 N2 O2 sz2, QE σ.1 J2 σ.2.1 N2 t → (∀ q, q < sz → O2 q = σ.2.2.2.1 q) → sz ≤ sz2 → P v (J2, N2, σ.2.2.1, O2, σ.2.2.2.2) sz2
theorem QE.un {J J2 N N2 : Nat → Nat → Int32} {t : Int32} (h : QE J J2 N N2 t) {k : Nat} {A : Nat → Int32} (hk : 47 ≤ k ∧ k ≤ 53) : QE J J2 N (zk_un N2 k A) t := ⟨h.1.un hk, h.2⟩
theorem m_isIn_999 {v : Int32} (h : m_isIn v 0 999 = true) : ∃ t, t ≤ 999 ∧ v = nI t := by
  have e : (999 : Int32) = nI 1000 - 1 := by decide
  rw [e] at h
  obtain ⟨j, h1, h2⟩ := m_isIn_lt (by decide) h
  exact ⟨j, by omega, h2⟩

