/-! the reference: addWindow; what a plan keeps to, after a door, a window -/
theorem MI.door {J N : Nat → Nat → Int32} (hm : MI J N) {j : Nat} {o x y up w : Int32} (hj : MR J N j) (ho : o = -1 ∨ ∃ k, MR J N k ∧ o = nI k) (hup : up = 0 ∨ up = 1) (h : c_door J N j o x y up w = 0) : MI (uJ_door J) (uN_door N (m_nd J) (nI j) o x y up w) ∧ m_nd (uJ_door J) = m_nd J + 1 := by
  have hgr := GR.of hm hj.1
  have hj20 := hj.lt hm
  obtain ⟨h1, h2, h3, h4, h5, h6, h7⟩ := hm
  obtain ⟨q1, q2, q3, q4, q5⟩ := h1
  have hd40 := q2.2
  unfold c_door at h
  by_cases a1 : m_isIn w 1 6 = false ∨ (if o = -1 then ¬ N 23 j = 0 else o = nI j ∨ ¬ N 23 o.toNatClampNeg = N 23 j)
  · rw [if_pos a1] at h; exact absurd h (by decide)
  · rw [if_neg a1] at h
    by_cases a2 : m_nd J = 40 ∨ m_canBe J N j o x y up w = false
    · rw [if_pos a2] at h; exact absurd h (by decide)
    · have w0 : m_isIn w 1 6 = true := by
        cases z : m_isIn w 1 6 with
        | false => exact absurd (Or.inl z) a1
        | true => rfl
      have hw := m_isIn_VN (lo := 1) (hi := 6) (by decide) (by decide) w0
      have hc : m_canBe J N j o x y up w = true := by
        cases z : m_canBe J N j o x y up w with
        | false => exact absurd (Or.inr z) a2
        | true => rfl
      have hn : ¬ m_nd J = 40 := fun z => a2 (Or.inl z)
      unfold m_canBe at hc
      rw [Bool.and_eq_true] at hc
      have hp := on_rg hgr hw (of_decide_eq_true hc.1)
      have e1 : (uJ_door J) 22 9 = nI (m_nd J + 1) := nI_s q2.1
      have e2 : m_nd (uJ_door J) = m_nd J + 1 := by
        show ((uJ_door J) 22 9).toNatClampNeg = _
        rw [e1, n_cl (by omega)]
      refine ⟨⟨⟨q1, ⟨by rw [e2]; exact e1, by rw [e2]; omega⟩, q3, q4, q5⟩, h2, fun d hd => ?_, h4, h5, h6, fun d hd hd2 => ?_⟩, e2⟩
      · rw [e2] at hd
        show (upd (N 30) (m_nd J) (nI j) d = -2 ∨ ∃ r, MR J N r ∧ upd (N 30) (m_nd J) (nI j) d = nI r ∧ (upd (N 31) (m_nd J) o d = -1 ∨ ∃ q, MR J N q ∧ q ≠ r ∧ upd (N 31) (m_nd J) o d = nI q)) ∧ VN (upd (N 32) (m_nd J) x d) 0 90 ∧ VN (upd (N 33) (m_nd J) y d) 0 90 ∧ VN (upd (N 34) (m_nd J) w d) 1 6 ∧ (upd (N 35) (m_nd J) up d = 0 ∨ upd (N 35) (m_nd J) up d = 1) ∧ (N 36 d = 0 ∨ N 36 d = 1)
        by_cases z : d = m_nd J
        · rw [z, upd_self, upd_self, upd_self, upd_self, upd_self, upd_self]
          refine ⟨Or.inr ⟨j, hj, rfl, ?_⟩, hp.1, hp.2, hw, hup, Or.inl (h7 _ (Nat.le_refl _) (by omega))⟩
          rcases ho with ho | ⟨k, hk, rfl⟩
          · exact Or.inl ho
          · refine Or.inr ⟨k, hk, fun zz => a1 (Or.inr ?_), rfl⟩
            have hk20 : k < 20 := Nat.lt_of_lt_of_le hk.1 q1.2
            rw [if_neg (nI_ne1 (by omega)), zz]
            exact Or.inl rfl
        · rw [upd_ne _ _ z, upd_ne _ _ z, upd_ne _ _ z, upd_ne _ _ z, upd_ne _ _ z, upd_ne _ _ z]
          exact h3 d (by omega)
      · rw [e2] at hd
        exact h7 d (by omega) hd2

