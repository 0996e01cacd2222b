/-! the reference: tick -/
theorem zk_up_id {O : zk_Hp} {a : Nat} {e : va_E} (h : O a = some e) : zk_up O a e = O := by
  funext q; unfold zk_up; split
  · next w => rw [w, h]
  · rfl
theorem act_nd {J N : Nat → Nat → Int32} {e : Nat} (he : e ∈ m_act J N) (h : e / 2 < 40) : e / 2 < m_nd J := by
  have hf := (m_act_mem.mp he).2
  unfold m_from at hf
  rw [if_pos h] at hf
  rcases Nat.lt_or_ge (e / 2) (m_nd J) with q | q
  · exact q
  · rw [if_pos (Or.inl q)] at hf; exact absurd rfl hf
theorem zk_b_or1 (b : Bool) : zk_b b ||| 1 = 1 := by cases b <;> decide
theorem zk_b_or0 (b : Bool) : zk_b b ||| 0 = zk_b b := by cases b <;> decide
theorem n_pos {n : Nat} (h : n < 2 ^ 31) : (nI n ≤ 0) = (n = 0) := by
  apply propext
  constructor
  · intro q
    rcases Nat.eq_zero_or_pos n with w | w
    · exact w
    · exact absurd (show nI n ≤ nI 0 from q) (nI_ge w h)
  · rintro rfl
    exact nI_le (a := 0) (b := 0) (Nat.le_refl _) (by decide)
def t_arr (E : zk_E) (f : Nat → Nat) : va_E := .inl (zk_ar E 0, 20, .inl (fun j => nI (f j)))

