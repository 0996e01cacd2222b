/-! a House just made -/
def s_J (d : Int32) : Nat → Nat → Int32 := zk_uj (fun _ _ => 0) 22 2 d
def s_N : Nat → Nat → Int32 := fun o => match o with
  | 6 => zk_FL
  | 27 => f_lim
  | _ => fun _ => 0
def s_Q : Nat → Nat → Option Nat := fun _ _ => none
def g_J : Nat → Nat → Int32 := fun _ _ => 0
def g_N : Nat → Nat → Int32 := fun o => match o with
  | 46 => f_lim
  | _ => fun _ => 0
theorem s_lim : ∀ i, i < 10 → zk_FL i = f_lim i := by
  intro i hi
  match i, hi with
  | 0, _ => decide
  | 1, _ => decide
  | 2, _ => decide
  | 3, _ => decide
  | 4, _ => decide
  | 5, _ => decide
  | 6, _ => decide
  | 7, _ => decide
  | 8, _ => decide
  | 9, _ => decide
theorem s_mi : MI g_J g_N := by
  have n0 : m_nr g_J = 0 := rfl
  have d0 : m_nd g_J = 0 := rfl
  have w0 : m_nw g_J = 0 := rfl
  have t0 : m_ns g_J = 0 := rfl
  refine ⟨⟨⟨rfl, by omega⟩, ⟨rfl, by omega⟩, ⟨rfl, by omega⟩, ⟨rfl, by omega⟩⟩, fun j hj => by omega, fun j hj => by omega, fun j hj => by omega, fun j hj => by omega, fun i hi => ?_, fun d _ _ => rfl⟩
  show VN (f_lim i) 0 999
  match i, hi with
  | 0, _ => exact ⟨0, by decide, by decide, by decide⟩
  | 1, _ => exact ⟨120, by decide, by decide, by decide⟩
  | 2, _ => exact ⟨8, by decide, by decide, by decide⟩
  | 3, _ => exact ⟨4, by decide, by decide, by decide⟩
  | 4, _ => exact ⟨10, by decide, by decide, by decide⟩
  | 5, _ => exact ⟨12, by decide, by decide, by decide⟩
  | 6, _ => exact ⟨50, by decide, by decide, by decide⟩
  | 7, _ => exact ⟨3, by decide, by decide, by decide⟩
  | 8, _ => exact ⟨60, by decide, by decide, by decide⟩
  | 9, _ => exact ⟨0, by decide, by decide, by decide⟩
theorem s_hi (E : zk_E) (O : zk_Hp) (U : zk_U) (d : Nat) (hU : HU E U) : HI E (E.1 + 28) (s_J (nI d), s_N, s_Q, O, U) g_J g_N d := by
  have n0 : m_nr g_J = 0 := rfl
  have d0 : m_nd g_J = 0 := rfl
  have w0 : m_nw g_J = 0 := rfl
  have t0 : m_ns g_J = 0 := rfl
  refine ⟨⟨s_mi, ⟨⟨rfl, rfl, rfl, rfl, s_lim⟩, fun r _ => Or.inr ⟨fun h => ?_, rfl⟩, fun r _ => Or.inr ⟨fun h => ?_, rfl⟩, fun r _ => Or.inr ⟨fun h => ?_, rfl⟩, fun r _ => Or.inr ⟨fun h => ?_, rfl⟩, fun d d2 a _ _ h => by cases h⟩, Or.inl rfl⟩, ⟨⟨rfl, rfl, rfl, rfl⟩, ⟨fun r hr => ?_, fun r r2 a hr => ?_⟩, ⟨fun r hr => ?_, fun r r2 a hr => ?_⟩, ⟨fun r hr => ?_, fun r r2 a hr => ?_⟩⟩, hU, rfl, Nat.le_refl _⟩
  · have h9 : r < m_nr g_J := h.1
    omega
  · have h9 : r < m_nd g_J := h.1
    omega
  · have h9 : r < m_nw g_J := h.1
    omega
  · have h9 : r < m_ns g_J := h.1
    omega
  all_goals omega
theorem up_o (h : zk_Hp) (n j k : Nat) (e : va_E) : zk_up h (n + j) e (n + k) = cond (k == j) (some e) (h (n + k)) := by
  unfold zk_up
  by_cases q : k = j
  · subst q
    rw [if_pos rfl, beq_self_eq_true]
    rfl
  · rw [if_neg (by omega), beq_eq_false_iff_ne.mpr q]
    rfl
theorem up_b (h : zk_Hp) (n j q : Nat) (e : va_E) (hq : q < n) : zk_up h (n + j) e q = h q := zk_up_ne _ _ (by omega)
def s_h (E : zk_E) (h : zk_Hp) (a b : Nat) (d : Int32) : zk_Hp := zk_up (h_X11 E h (a + 1)) a (.inr (10, [.ref (a + 1), .ref b, .int d, .int 0, .ref (a + 1 + 22), .int 0, .ref (a + 1 + 23), .int 0, .ref (a + 1 + 24), .int 0, .ref (a + 1 + 25), .ref (a + 1 + 26)]))
set_option maxHeartbeats 8000000 in
theorem s_in (E : zk_E) (h : zk_Hp) (a : Nat) (d : Int32) (U : zk_U) (h0 : h U.1 = some (.inl (zk_ar E 0, U.2.1, .inl U.2.2))) : ∀ q e, zk_view (a, E.2) (s_J d, s_N, s_Q, fun _ => none, U) q = some e → s_h E h a U.1 d q = some e := by
  intro q e hq
  have e0 : s_h E h a U.1 d = zk_up (h_X11 E h (a + 1)) (a + 0) (.inr (10, [.ref (a + 1), .ref U.1, .int d, .int 0, .ref (a + 1 + 22), .int 0, .ref (a + 1 + 23), .int 0, .ref (a + 1 + 24), .int 0, .ref (a + 1 + 25), .ref (a + 1 + 26)])) := rfl
  rw [e0]
  unfold h_X11 h_X10 h_X3 h_X0 h_X8 h_X5
  simp only [Nat.add_assoc, Nat.reduceAdd]
  unfold zk_view at hq
  split at hq
  · rename_i h2 h1
    have h1 : q < a := of_decide_eq_true h1
    unfold zk_scr at hq
    split at hq
    · rename_i h9
      have h9 : q = U.1 := h9
      rw [h9] at h1 ⊢
      simp only [up_b _ _ _ _ _ h1]
      rw [h0]
      exact hq
    · cases hq
  · rename_i h1 h2
    have h1 : ¬ q < a := of_decide_eq_false h1
    have h2 : q < a + 28 := of_decide_eq_true h2
    obtain ⟨k, rfl⟩ : ∃ k, q = a + k := ⟨q - a, by omega⟩
    have hx : zk_ix (a, E.2) (a + k) = zk_inv k := by
      unfold zk_ix
      rw [Nat.add_sub_cancel_left]
    rw [hx] at hq
    have hk : k < 28 := by omega
    have hq2 : k = 0 ∨ k = 1 ∨ k = 2 ∨ k = 3 ∨ k = 4 ∨ k = 5 ∨ k = 6 ∨ k = 7 ∨ k = 8 ∨ k = 9 ∨ k = 10 ∨ k = 11 ∨ k = 12 ∨ k = 13 ∨ k = 14 ∨ k = 15 ∨ k = 16 ∨ k = 17 ∨ k = 18 ∨ k = 19 ∨ k = 20 ∨ k = 21 ∨ k = 22 ∨ k = 23 ∨ k = 24 ∨ k = 25 ∨ k = 26 ∨ k = 27 := by omega
    rcases hq2 with rfl | rfl | rfl | rfl | rfl | rfl | rfl | rfl | rfl | rfl | rfl | rfl | rfl | rfl | rfl | rfl | rfl | rfl | rfl | rfl | rfl | rfl | rfl | rfl | rfl | rfl | rfl | rfl <;> (cases hq; simp only [up_o, Nat.reduceBEq, cond_true, cond_false]; rfl)
  · cases hq

