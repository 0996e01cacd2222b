/-! how long pieces have in common, in numbers -/
theorem l64_add {x y : Int64} (h : -9000000000000000000 ≤ x.toInt + y.toInt ∧ x.toInt + y.toInt < 9000000000000000000) : (x + y).toInt = x.toInt + y.toInt := by
  rw [Int64.toInt_add, Int.bmod_eq_emod]
  split <;> omega
theorem l64_sub {x y : Int64} (h : -9000000000000000000 ≤ x.toInt - y.toInt ∧ x.toInt - y.toInt < 9000000000000000000) : (x - y).toInt = x.toInt - y.toInt := by
  rw [Int64.toInt_sub, Int.bmod_eq_emod]
  split <;> omega
theorem l64_of (x : Int32) : x.toInt64.toInt = x.toInt := Int32.toInt_toInt64 x
theorem i32_rg (x : Int32) : -2147483648 ≤ x.toInt ∧ x.toInt < 2147483648 := ⟨Int32.le_toInt x, Int32.toInt_lt x⟩
theorem l64_min (x y : Int64) : (l_min x y).toInt = min x.toInt y.toInt := by
  unfold l_min
  by_cases h : y < x
  · rw [if_pos h]; rw [Int64.lt_iff_toInt_lt] at h; omega
  · rw [if_neg h]; rw [Int64.lt_iff_toInt_lt] at h; omega
theorem l64_max (x y : Int64) : (l_max x y).toInt = max x.toInt y.toInt := by
  unfold l_max
  by_cases h : y < x
  · rw [if_pos h]; rw [Int64.lt_iff_toInt_lt] at h; omega
  · rw [if_neg h]; rw [Int64.lt_iff_toInt_lt] at h; omega
theorem sh_int (a ow b tw : Int32) (h1 : 0 ≤ ow.toInt ∧ ow.toInt ≤ 6) (h2 : 0 ≤ b.toInt ∧ b.toInt ≤ 100) (h3 : 0 ≤ tw.toInt ∧ tw.toInt ≤ 30) :
    (l_max 0 (l_min (a.toInt64 + ow.toInt64) (b.toInt64 + tw.toInt64) - l_max a.toInt64 b.toInt64)).toInt32.toInt = max 0 (min (a.toInt + ow.toInt) (b.toInt + tw.toInt) - max a.toInt b.toInt) := by
  have ha := i32_rg a
  have e1 : (a.toInt64 + ow.toInt64).toInt = a.toInt + ow.toInt := by rw [l64_add (by rw [l64_of, l64_of]; omega), l64_of, l64_of]
  have e2 : (b.toInt64 + tw.toInt64).toInt = b.toInt + tw.toInt := by rw [l64_add (by rw [l64_of, l64_of]; omega), l64_of, l64_of]
  have e3 : (l_min (a.toInt64 + ow.toInt64) (b.toInt64 + tw.toInt64) - l_max a.toInt64 b.toInt64).toInt = min (a.toInt + ow.toInt) (b.toInt + tw.toInt) - max a.toInt b.toInt := by
    rw [l64_sub (by rw [l64_min, l64_max, e1, e2, l64_of, l64_of]; omega), l64_min, l64_max, e1, e2, l64_of, l64_of]
  have e4 : (l_max 0 (l_min (a.toInt64 + ow.toInt64) (b.toInt64 + tw.toInt64) - l_max a.toInt64 b.toInt64)).toInt = max 0 (min (a.toInt + ow.toInt) (b.toInt + tw.toInt) - max a.toInt b.toInt) := by
    rw [l64_max, e3]; rfl
  rw [Int64.toInt_toInt32, e4, n_bmod (by omega) (by omega)]
def p_line (up x y : Int32) : Int32 := if up = 0 then y else x
def p_start (up x y : Int32) : Int32 := if up = 0 then x else y
/-- how long two pieces have in common, of one kind -/
theorem sh_pos {ox oy up ow tx ty tu tw : Int32} (h1 : 0 ≤ ow.toInt ∧ ow.toInt ≤ 6) (h2 : 0 ≤ (p_start tu tx ty).toInt ∧ (p_start tu tx ty).toInt ≤ 100) (h3 : 0 ≤ tw.toInt ∧ tw.toInt ≤ 30) :
    (m_shared ox oy up ow tx ty tu tw).toInt = if up = tu ∧ p_line up ox oy = p_line tu tx ty then max 0 (min ((p_start up ox oy).toInt + ow.toInt) ((p_start tu tx ty).toInt + tw.toInt) - max (p_start up ox oy).toInt (p_start tu tx ty).toInt) else 0 := by
  unfold m_shared p_line
  by_cases hu : up = tu
  · subst hu
    by_cases h0 : up = 0
    · subst h0
      by_cases hl : oy = ty
      · have := sh_int ox ow tx tw h1 (by simpa [p_start] using h2) h3
        simpa [hl, p_start] using this
      · simp [hl]
    · by_cases hl : ox = tx
      · have := sh_int oy ow ty tw h1 (by simpa [p_start, h0] using h2) h3
        simpa [hl, p_start, h0] using this
      · simp [hl, h0]
  · simp [hu]
/-- a piece lies on a side of a room -/
def p_on (N : Nat → Nat → Int32) (r : Nat) (up ix iy iw : Int32) : Bool := (decide (p_line up ix iy = p_line up (N 24 r) (N 25 r)) || decide (p_line up ix iy = p_line up (N 24 r) (N 25 r) + p_line up (N 26 r) (N 27 r))) && (decide (p_start up (N 24 r) (N 25 r) ≤ p_start up ix iy) && decide (p_start up ix iy ≤ p_start up (N 24 r) (N 25 r) + p_start up (N 26 r) (N 27 r) - iw))
/-- a piece has something in common with a side of a room -/
def p_to (N : Nat → Nat → Int32) (r : Nat) (up ix iy iw : Int32) : Bool := (decide (p_line up ix iy = p_line up (N 24 r) (N 25 r)) || decide (p_line up ix iy = p_line up (N 24 r) (N 25 r) + p_line up (N 26 r) (N 27 r))) && (decide (p_start up ix iy < p_start up (N 24 r) (N 25 r) + p_start up (N 26 r) (N 27 r)) && decide (p_start up (N 24 r) (N 25 r) < p_start up ix iy + iw))
theorem VN.toI {x : Int32} {lo hi : Nat} (h : VN x lo hi) (hh : hi < 2 ^ 30) : (lo : Int) ≤ x.toInt ∧ x.toInt ≤ hi := by
  obtain ⟨n, h1, h2, rfl⟩ := h
  rw [nI_toInt (by omega)]
  omega
theorem i32_le (x y : Int32) : x ≤ y ↔ x.toInt ≤ y.toInt := Int32.le_iff_toInt_le
theorem i32_lt (x y : Int32) : x < y ↔ x.toInt < y.toInt := Int32.lt_iff_toInt_lt
theorem i32_eq (x y : Int32) : x = y ↔ x.toInt = y.toInt := Int32.toInt_inj.symm
/-- a room's numbers -/
def GR (N : Nat → Nat → Int32) (r : Nat) : Prop := VN (N 24 r) 0 60 ∧ VN (N 25 r) 0 60 ∧ VN (N 26 r) 1 30 ∧ VN (N 27 r) 1 30
theorem GR.of {J N : Nat → Nat → Int32} {r : Nat} (hm : MI J N) (h : r < m_nr J) : GR N r := by
  obtain ⟨-, h1, h2, h3, h4, -⟩ := hm.2.1 r h
  exact ⟨h1, h2, h3, h4⟩
theorem on_core {l s iw l0 ll s0 sl x1 x2 : Int32} (hw : 1 ≤ iw.toInt ∧ iw.toInt ≤ 6) (g1 : 0 ≤ l0.toInt ∧ l0.toInt ≤ 60) (g2 : 1 ≤ ll.toInt ∧ ll.toInt ≤ 30) (g3 : 0 ≤ s0.toInt ∧ s0.toInt ≤ 60) (g4 : 1 ≤ sl.toInt ∧ sl.toInt ≤ 30)
    (h1 : x1.toInt = if l = l0 then max 0 (min (s.toInt + iw.toInt) (s0.toInt + sl.toInt) - max s.toInt s0.toInt) else 0) (h2 : x2.toInt = if l = l0 + ll then max 0 (min (s.toInt + iw.toInt) (s0.toInt + sl.toInt) - max s.toInt s0.toInt) else 0) :
    (iw ≤ x1 + x2 ↔ ((l = l0 ∨ l = l0 + ll) ∧ s0 ≤ s ∧ s ≤ s0 + sl - iw)) ∧ (0 < x1 + x2 ↔ ((l = l0 ∨ l = l0 + ll) ∧ s.toInt < s0.toInt + sl.toInt ∧ s0.toInt < s.toInt + iw.toInt)) := by
  have e1 : (l0 + ll).toInt = l0.toInt + ll.toInt := n_addI (by omega) (by omega)
  have e2 : (s0 + sl).toInt = s0.toInt + sl.toInt := n_addI (by omega) (by omega)
  have e3 : (s0 + sl - iw).toInt = s0.toInt + sl.toInt - iw.toInt := by rw [n_subI (by omega) (by omega), e2]
  have hne : ¬ l0 = l0 + ll := fun q => by rw [i32_eq, e1] at q; omega
  have z0 : (0 : Int32).toInt = 0 := rfl
  by_cases c1 : l = l0
  · have c2 : ¬ l = l0 + ll := by rw [c1]; exact hne
    rw [if_pos c1] at h1
    rw [if_neg c2] at h2
    have e4 : (x1 + x2).toInt = x1.toInt + x2.toInt := n_addI (by omega) (by omega)
    rw [i32_le, i32_le, i32_le, i32_lt, e3, e4, z0]
    simp only [c1, true_or, true_and]
    omega
  · rw [if_neg c1] at h1
    by_cases c2 : l = l0 + ll
    · rw [if_pos c2] at h2
      have e4 : (x1 + x2).toInt = x1.toInt + x2.toInt := n_addI (by omega) (by omega)
      rw [i32_le, i32_le, i32_le, i32_lt, e3, e4, z0]
      simp only [c1, c2, or_true, true_and]
      omega
    · rw [if_neg c2] at h2
      have e4 : (x1 + x2).toInt = x1.toInt + x2.toInt := n_addI (by omega) (by omega)
      rw [i32_le, i32_le, i32_le, i32_lt, e3, e4, z0]
      simp only [c1, c2, or_self, false_and]
      refine ⟨⟨fun q => ?_, False.elim⟩, ⟨fun q => ?_, False.elim⟩⟩ <;> omega
theorem sides_core {N : Nat → Nat → Int32} {r : Nat} {up ix iy iw : Int32} (hr : GR N r) (hw : VN iw 1 6) :
    (iw ≤ m_onSides N r ix iy up iw ↔ ((p_line up ix iy = p_line up (N 24 r) (N 25 r) ∨ p_line up ix iy = p_line up (N 24 r) (N 25 r) + p_line up (N 26 r) (N 27 r)) ∧ p_start up (N 24 r) (N 25 r) ≤ p_start up ix iy ∧ p_start up ix iy ≤ p_start up (N 24 r) (N 25 r) + p_start up (N 26 r) (N 27 r) - iw)) ∧
    (0 < m_onSides N r ix iy up iw ↔ ((p_line up ix iy = p_line up (N 24 r) (N 25 r) ∨ p_line up ix iy = p_line up (N 24 r) (N 25 r) + p_line up (N 26 r) (N 27 r)) ∧ (p_start up ix iy).toInt < (p_start up (N 24 r) (N 25 r)).toInt + (p_start up (N 26 r) (N 27 r)).toInt ∧ (p_start up (N 24 r) (N 25 r)).toInt < (p_start up ix iy).toInt + iw.toInt)) := by
  obtain ⟨h1, h2, h3, h4⟩ := hr
  have a1 := h1.toI (by decide)
  have a2 := h2.toI (by decide)
  have a3 := h3.toI (by decide)
  have a4 := h4.toI (by decide)
  have a5 := hw.toI (by decide)
  unfold m_onSides
  by_cases h0 : up = 0
  · subst h0
    have k1 := sh_pos (ox := ix) (oy := iy) (up := 0) (ow := iw) (tx := N 24 r) (ty := N 25 r) (tu := 0) (tw := N 26 r) (by omega) (by simp only [p_start, if_true, ite_true]; omega) (by omega)
    have k2 := sh_pos (ox := ix) (oy := iy) (up := 0) (ow := iw) (tx := N 24 r) (ty := N 25 r + N 27 r) (tu := 0) (tw := N 26 r) (by omega) (by simp only [p_start, if_true, ite_true]; omega) (by omega)
    simp only [p_start, p_line, if_true, ite_true, true_and] at k1 k2 ⊢
    exact on_core (by omega) (by omega) (by omega) (by omega) (by omega) k1 k2
  · have k1 := sh_pos (ox := ix) (oy := iy) (up := up) (ow := iw) (tx := N 24 r) (ty := N 25 r) (tu := up) (tw := N 27 r) (by omega) (by simp only [p_start, h0, if_false, ite_false]; omega) (by omega)
    have k2 := sh_pos (ox := ix) (oy := iy) (up := up) (ow := iw) (tx := N 24 r + N 26 r) (ty := N 25 r) (tu := up) (tw := N 27 r) (by omega) (by simp only [p_start, h0, if_false, ite_false]; omega) (by omega)
    simp only [p_start, p_line, h0, if_false, ite_false, true_and] at k1 k2 ⊢
    exact on_core (by omega) (by omega) (by omega) (by omega) (by omega) k1 k2
theorem on_iff {N : Nat → Nat → Int32} {r : Nat} {up ix iy iw : Int32} (hr : GR N r) (hw : VN iw 1 6) : decide (iw ≤ m_onSides N r ix iy up iw) = p_on N r up ix iy iw := by
  have h := (sides_core (up := up) (ix := ix) (iy := iy) hr hw).1
  unfold p_on
  rw [Bool.eq_iff_iff]
  simp only [decide_eq_true_eq, Bool.and_eq_true, Bool.or_eq_true]
  exact h
/-- a piece on a side of a room is where it can be -/
theorem on_rg {N : Nat → Nat → Int32} {r : Nat} {up ix iy iw : Int32} (hr : GR N r) (hw : VN iw 1 6) (h : iw ≤ m_onSides N r ix iy up iw) : VN ix 0 90 ∧ VN iy 0 90 := by
  obtain ⟨q1, q2, q3⟩ := (sides_core (up := up) (ix := ix) (iy := iy) hr hw).1.mp h
  obtain ⟨h1, h2, h3, h4⟩ := hr
  have a1 := h1.toI (by decide)
  have a2 := h2.toI (by decide)
  have a3 := h3.toI (by decide)
  have a4 := h4.toI (by decide)
  have a5 := hw.toI (by decide)
  have vn : ∀ x : Int32, 0 ≤ x.toInt → x.toInt ≤ 90 → VN x 0 90 := fun x z1 z2 => ⟨x.toInt.toNat, Nat.zero_le _, by omega, by
    apply Int32.toInt_inj.mp
    rw [nI_toInt (by omega)]
    omega⟩
  have e1 : (N 24 r + N 26 r).toInt = (N 24 r).toInt + (N 26 r).toInt := n_addI (by omega) (by omega)
  have e2 : (N 25 r + N 27 r).toInt = (N 25 r).toInt + (N 27 r).toInt := n_addI (by omega) (by omega)
  have e3 : (N 24 r + N 26 r - iw).toInt = (N 24 r).toInt + (N 26 r).toInt - iw.toInt := by rw [n_subI (by omega) (by omega), e1]
  have e4 : (N 25 r + N 27 r - iw).toInt = (N 25 r).toInt + (N 27 r).toInt - iw.toInt := by rw [n_subI (by omega) (by omega), e2]
  by_cases h0 : up = 0
  · subst h0
    simp only [p_start, p_line, if_true, ite_true] at q1 q2 q3
    rw [i32_le] at q2 q3
    rw [i32_eq, i32_eq, e2] at q1
    rw [e3] at q3
    exact ⟨vn _ (by omega) (by omega), vn _ (by omega) (by omega)⟩
  · simp only [p_start, p_line, h0, if_false, ite_false] at q1 q2 q3
    rw [i32_le] at q2 q3
    rw [i32_eq, i32_eq, e1] at q1
    rw [e4] at q3
    exact ⟨vn _ (by omega) (by omega), vn _ (by omega) (by omega)⟩
theorem start_rg {up ix iy : Int32} (h : VN ix 0 90 ∧ VN iy 0 90) : VN (p_start up ix iy) 0 90 ∧ VN (p_line up ix iy) 0 90 := by
  unfold p_start p_line
  by_cases h0 : up = 0
  · rw [if_pos h0, if_pos h0]; exact h
  · rw [if_neg h0, if_neg h0]; exact ⟨h.2, h.1⟩
theorem to_iff {N : Nat → Nat → Int32} {r : Nat} {up ix iy iw : Int32} (hr : GR N r) (hw : VN iw 1 6) (hp : VN ix 0 90 ∧ VN iy 0 90) : decide (0 < m_onSides N r ix iy up iw) = p_to N r up ix iy iw := by
  have h := (sides_core (up := up) (ix := ix) (iy := iy) hr hw).2
  have b := (start_rg (up := up) hp).1.toI (by decide)
  have a5 := hw.toI (by decide)
  obtain ⟨h1, h2, h3, h4⟩ := hr
  have a1 := h1.toI (by decide)
  have a2 := h2.toI (by decide)
  have a3 := h3.toI (by decide)
  have a4 := h4.toI (by decide)
  have f : 0 ≤ (p_start up (N 24 r) (N 25 r)).toInt ∧ (p_start up (N 24 r) (N 25 r)).toInt ≤ 60 ∧ 1 ≤ (p_start up (N 26 r) (N 27 r)).toInt ∧ (p_start up (N 26 r) (N 27 r)).toInt ≤ 30 := by
    unfold p_start
    split <;> omega
  unfold p_to
  rw [Bool.eq_iff_iff]
  simp only [decide_eq_true_eq, Bool.and_eq_true, Bool.or_eq_true]
  rw [h, i32_lt (p_start up ix iy), i32_lt (p_start up (N 24 r) (N 25 r)), n_addI (by omega) (by omega), n_addI (x := p_start up ix iy) (by omega) (by omega)]
/-- two pieces have something in common -/
def p_sh (up tu l tl s ts iw tw : Int32) : Bool := decide (up = tu) && (decide (l = tl) && (decide (s < ts + tw) && decide (ts < s + iw)))
theorem sh_iff {ox oy up ow tx ty tu tw : Int32} (hw : VN ow 1 6) (hp : VN ox 0 90 ∧ VN oy 0 90) (ht : VN tx 0 90 ∧ VN ty 0 90) (htw : VN tw 1 6) : decide (0 < m_shared ox oy up ow tx ty tu tw) = p_sh up tu (p_line up ox oy) (p_line tu tx ty) (p_start up ox oy) (p_start tu tx ty) ow tw := by
  have a1 := hw.toI (by decide)
  have a2 := htw.toI (by decide)
  have b1 := (start_rg (up := up) hp).1.toI (by decide)
  have b2 := (start_rg (up := tu) ht).1.toI (by decide)
  have h := sh_pos (ox := ox) (oy := oy) (up := up) (ow := ow) (tx := tx) (ty := ty) (tu := tu) (tw := tw) (by omega) (by omega) (by omega)
  unfold p_sh
  have z0 : (0 : Int32).toInt = 0 := rfl
  have e1 : (p_start tu tx ty + tw).toInt = (p_start tu tx ty).toInt + tw.toInt := n_addI (by omega) (by omega)
  have e2 : (p_start up ox oy + ow).toInt = (p_start up ox oy).toInt + ow.toInt := n_addI (by omega) (by omega)
  rw [Bool.eq_iff_iff]
  simp only [decide_eq_true_eq, Bool.and_eq_true]
  rw [i32_lt, i32_lt, i32_lt, e1, e2, h, z0]
  by_cases c1 : up = tu
  · by_cases c2 : p_line up ox oy = p_line tu tx ty
    · rw [if_pos ⟨c1, c2⟩]
      subst c1
      simp only [c2, true_and]
      omega
    · rw [if_neg (fun w => c2 w.2)]
      refine ⟨fun q => ?_, fun q => absurd q.2.1 c2⟩
      omega
  · rw [if_neg (fun w => c1 w.1)]
    refine ⟨fun q => ?_, fun q => absurd q.1 c1⟩
    omega


