/-! the answers under a ghost carried over -/
/-- the same counts, the same rows from the doors on -/
def GS (J J2 : Nat → Nat → Int32) (N N2 : Nat → Nat → Int32) : Prop := J2 22 1 = J 22 1 ∧ J2 22 9 = J 22 9 ∧ J2 22 17 = J 22 17 ∧ J2 22 23 = J 22 23 ∧ ∀ o, 30 ≤ o → o ≤ 46 → N2 o = N o
theorem GH.gs {J N J2 N2 : Nat → Nat → Int32} (h : GH J N J2 N2) : GS J J2 N N2 := ⟨h.1.1, h.1.2.1, h.1.2.2.1, h.1.2.2.2, h.2.2⟩
theorem GS.from {J J2 N N2 : Nat → Nat → Int32} (h : GS J J2 N N2) (e : Nat) : m_from J2 N2 e = m_from J N e := by
  obtain ⟨h1, h2, h3, h4, h5⟩ := h
  unfold m_from m_nd m_ns
  rw [h2, h4, h5 30 (by omega) (by omega), h5 31 (by omega) (by omega), h5 36 (by omega) (by omega), h5 42 (by omega) (by omega), h5 43 (by omega) (by omega)]
theorem GS.into {J J2 N N2 : Nat → Nat → Int32} (h : GS J J2 N N2) (e : Nat) : m_into N2 e = m_into N e := by
  obtain ⟨h1, h2, h3, h4, h5⟩ := h
  unfold m_into
  rw [h5 30 (by omega) (by omega), h5 31 (by omega) (by omega), h5 42 (by omega) (by omega), h5 43 (by omega) (by omega)]
theorem GS.px {J J2 N N2 : Nat → Nat → Int32} (h : GS J J2 N N2) (e : Nat) : m_px N2 e = m_px N e := by
  obtain ⟨h1, h2, h3, h4, h5⟩ := h
  unfold m_px
  rw [h5 32 (by omega) (by omega), h5 34 (by omega) (by omega), h5 35 (by omega) (by omega), h5 44 (by omega) (by omega)]
theorem GS.py {J J2 N N2 : Nat → Nat → Int32} (h : GS J J2 N N2) (e : Nat) : m_py N2 e = m_py N e := by
  obtain ⟨h1, h2, h3, h4, h5⟩ := h
  unfold m_py
  rw [h5 33 (by omega) (by omega), h5 34 (by omega) (by omega), h5 35 (by omega) (by omega), h5 45 (by omega) (by omega)]
theorem GS.gx {J J2 N N2 : Nat → Nat → Int32} (h : GS J J2 N N2) : g_x N2 = g_x N := by funext e; unfold g_x; rw [h.px]
theorem GS.gy {J J2 N N2 : Nat → Nat → Int32} (h : GS J J2 N N2) : g_y N2 = g_y N := by funext e; unfold g_y; rw [h.py]
theorem GS.act {J J2 N N2 : Nat → Nat → Int32} (h : GS J J2 N N2) : m_act J2 N2 = m_act J N := by unfold m_act m_actN; simp only [h.from]
theorem GS.least {J J2 N N2 : Nat → Nat → Int32} (h : GS J J2 N N2) : g_least J2 N2 = g_least J N := by
  funext v r b x y
  unfold g_least g_c g_f
  simp only [h.from, h.gx, h.gy, h.act]
theorem GS.ff {J J2 N N2 : Nat → Nat → Int32} (h : GS J J2 N N2) : FF J2 N2 = FF J N := by
  funext v e
  unfold FF
  simp only [h.least, h.gx, h.gy, h.into]
theorem GS.dd {J J2 N N2 : Nat → Nat → Int32} (h : GS J J2 N N2) : ∀ k, DD J2 N2 k = DD J N k
  | 0 => rfl
  | k + 1 => by
    show FF J2 N2 (DD J2 N2 k) = FF J N (DD J N k)
    rw [h.ff, h.dd k]
theorem GS.ll {J J2 N N2 : Nat → Nat → Int32} (h : GS J J2 N N2) : LL J2 N2 = LL J N := h.dd 100
theorem GS.dist {J J2 N N2 : Nat → Nat → Int32} (h : GS J J2 N N2) : m_dist N2 = m_dist N := by
  funext e x y; unfold m_dist; rw [h.px, h.py]
theorem GS.best {J J2 N N2 : Nat → Nat → Int32} (h : GS J J2 N N2) : g_best J2 N2 = g_best J N := by
  funext v r x y
  unfold g_best g_bsl g_bs
  simp only [h.from, h.gx, h.gy, h.act]
theorem GS.a5 {J J2 N N2 : Nat → Nat → Int32} (h : GS J J2 N N2) : a_way J2 N2 = a_way J N := by funext e; unfold a_way; rw [h.from, h.ll]

