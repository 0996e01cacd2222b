/-! the answers under a ghost carried over -/
/-- the same counts, the same rows from the doors on -/
def GS (J J2 : Nat → Nat → Int32) (N N2 : Nat → Nat → Int32) : Prop := J2 22 1 = J 22 1 ∧ J2 22 9 = J 22 9 ∧ J2 22 17 = J 22 17 ∧ J2 22 23 = J 22 23 ∧ ∀ o, 30 ≤ o → o ≤ 46 → N2 o = N o
theorem GH.gs {J N J2 N2 : Nat → Nat → Int32} (h : GH J N J2 N2) : GS J J2 N N2 := ⟨h.1.1, h.1.2.1, h.1.2.2.1, h.1.2.2.2, h.2.2⟩
theorem GS.from {J J2 N N2 : Nat → Nat → Int32} (h : GS J J2 N N2) (e : Nat) : m_from J2 N2 e = m_from J N e := by
  obtain ⟨h1, h2, h3, h4, h5⟩ := h
  unfold m_from m_nd m_ns
  rw [h2, h4, h5 30 (by omega) (by omega), h5 31 (by omega) (by omega), h5 36 (by omega) (by omega), h5 42 (by omega) (by omega), h5 43 (by omega) (by omega)]
theorem GS.into {J J2 N N2 : Nat → Nat → Int32} (h : GS J J2 N N2) (e : Nat) : m_into N2 e = m_into N e := by
  obtain ⟨h1, h2, h3, h4, h5⟩ := h
  unfold m_into
  rw [h5 30 (by omega) (by omega), h5 31 (by omega) (by omega), h5 42 (by omega) (by omega), h5 43 (by omega) (by omega)]
theorem GS.px {J J2 N N2 : Nat → Nat → Int32} (h : GS J J2 N N2) (e : Nat) : m_px N2 e = m_px N e := by
  obtain ⟨h1, h2, h3, h4, h5⟩ := h
  unfold m_px
  rw [h5 32 (by omega) (by omega), h5 34 (by omega) (by omega), h5 35 (by omega) (by omega), h5 44 (by omega) (by omega)]
theorem GS.py {J J2 N N2 : Nat → Nat → Int32} (h : GS J J2 N N2) (e : Nat) : m_py N2 e = m_py N e := by
  obtain ⟨h1, h2, h3, h4, h5⟩ := h
  unfold m_py
  rw [h5 33 (by omega) (by omega), h5 34 (by omega) (by omega), h5 35 (by omega) (by omega), h5 45 (by omega) (by omega)]
theorem GS.gx {J J2 N N2 : Nat → Nat → Int32} (h : GS J J2 N N2) : g_x N2 = g_x N := by funext e; unfold g_x; rw [h.px]
theorem GS.gy {J J2 N N2 : Nat → Nat → Int32} (h : GS J J2 N N2) : g_y N2 = g_y N := by funext e; unfold g_y; rw [h.py]
theorem GS.act {J J2 N N2 : Nat → Nat → Int32} (h : GS J J2 N N2) : m_act J2 N2 = m_act J N := by unfold m_act m_actN; simp only [h.from]
theorem GS.least {J J2 N N2 : Nat → Nat → Int32} (h : GS J J2 N N2) : g_least J2 N2 = g_least J N := by
  funext v r b x y
  unfold g_least g_c g_f
  simp only [h.from, h.gx, h.gy, h.act]
theorem GS.ff {J J2 N N2 : Nat → Nat → Int32} (h : GS J J2 N N2) : FF J2 N2 = FF J N := by
  funext v e
  unfold FF
  simp only [h.least, h.gx, h.gy, h.into]
theorem GS.dd {J J2 N N2 : Nat → Nat → Int32} (h : GS J J2 N N2) : ∀ k, DD J2 N2 k = DD J N k
  | 0 => rfl
  | k + 1 => by
    show FF J2 N2 (DD J2 N2 k) = FF J N (DD J N k)
    rw [h.ff, h.dd k]
theorem GS.ll {J J2 N N2 : Nat → Nat → Int32} (h : GS J J2 N N2) : LL J2 N2 = LL J N := h.dd 100
theorem GS.dist {J J2 N N2 : Nat → Nat → Int32} (h : GS J J2 N N2) : m_dist N2 = m_dist N := by
  funext e x y; unfold m_dist; rw [h.px, h.py]
theorem GS.best {J J2 N N2 : Nat → Nat → Int32} (h : GS J J2 N N2) : g_best J2 N2 = g_best J N := by
  funext v r x y
  unfold g_best g_bsl g_bs
  simp only [h.from, h.gx, h.gy, h.act]
theorem GS.a5 {J J2 N N2 : Nat → Nat → Int32} (h : GS J J2 N N2) : a_way J2 N2 = a_way J N := by funext e; unfold a_way; rw [h.from, h.ll]
theorem GH.bb {J N J2 N2 : Nat → Nat → Int32} (h : GH J N J2 N2) (hmi : MI J N) {j : Nat} (hj : j < 20) : BB J2 N2 j = BB J N j := by
  by_cases w : j < m_nr J
  · unfold BB g_mx g_my
    rw [h.gs.best, h.gs.ll, h.2.1 24 (by decide) (by decide) j w, h.2.1 25 (by decide) (by decide) j w, h.2.1 26 (by decide) (by decide) j w, h.2.1 27 (by decide) (by decide) j w]
  · rw [bb_gone hmi hj (fun z => w z.1), bb_gone (hmi.gh h) hj (fun z => w (by rw [← h.nr.1]; exact z.1))]
theorem GH.lea {J N J2 N2 : Nat → Nat → Int32} (h : GH J N J2 N2) (hmi : MI J N) {j : Nat} (hj : j < 20) : lea J2 N2 j = lea J N j := by
  show (BB J2 N2 j).2 = (BB J N j).2
  rw [h.bb hmi hj]
theorem GH.intof {J N J2 N2 : Nat → Nat → Int32} (h : GH J N J2 N2) : m_into N2 = m_into N := by funext e; exact h.gs.into e
theorem lea_to {J N : Nat → Nat → Int32} (hmi : MI J N) {q : Nat} (z : ¬ Jvm.Pilot.CClerestoryPlanLaw_law_r3167_263d5c.lea J N q = 100) : m_into N (Jvm.Pilot.CClerestoryPlanLaw_law_r3167_263d5c.lea J N q) = -1 ∨ ∃ k, k < 20 ∧ m_into N (Jvm.Pilot.CClerestoryPlanLaw_law_r3167_263d5c.lea J N q) = nI k := by
  rcases lea_at (J := J) (N := N) q with w | ⟨w, -⟩
  · exact absurd (by show (BB J N q).2 = 100; rw [w]) z
  · obtain ⟨_, _, _, w2⟩ := m_ends hmi w
    rcases w2 with w2 | ⟨k, k1, -, k3⟩
    · exact Or.inl w2
    · exact Or.inr ⟨k, k1.lt hmi, k3⟩
theorem GH.dep {J N J2 N2 : Nat → Nat → Int32} (h : GH J N J2 N2) (hmi : MI J N) : ∀ f r m, (r = -1 ∨ ∃ q, q < 20 ∧ r = nI q) → g_dep J2 N2 f r m = g_dep J N f r m
  | 0, _, _, _ => rfl
  | f + 1, r, m, hr => by
    unfold g_dep
    rcases hr with rfl | ⟨q, hq, rfl⟩
    · rw [if_pos rfl, if_pos rfl]
    · rw [if_neg (nI_ne1 (by omega)), if_neg (nI_ne1 (by omega)), n_cl (by omega), h.lea hmi hq, h.intof]
      by_cases z : Jvm.Pilot.CClerestoryPlanLaw_law_r3167_263d5c.lea J N q = 100
      · rw [if_pos z, if_pos z]
      · rw [if_neg z, if_neg z]
        exact GH.dep h hmi f _ _ (lea_to hmi z)
theorem GH.deep {J N J2 N2 : Nat → Nat → Int32} (h : GH J N J2 N2) (hmi : MI J N) {j : Nat} (hj : j < 20) : g_deep J2 N2 j = g_deep J N j := h.dep hmi _ _ _ (Or.inr ⟨j, hj, rfl⟩)

