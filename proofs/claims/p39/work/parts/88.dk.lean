/-! the answers under a ghost carried over -/
/-- the same counts, the same rows from the doors on -/
def GS (J J2 : Nat → Nat → Int32) (N N2 : Nat → Nat → Int32) : Prop := J2 22 1 = J 22 1 ∧ J2 22 9 = J 22 9 ∧ J2 22 17 = J 22 17 ∧ J2 22 23 = J 22 23 ∧ ∀ o, 30 ≤ o → o ≤ 46 → N2 o = N o
theorem GH.gs {J N J2 N2 : Nat → Nat → Int32} (h : GH J N J2 N2) : GS J J2 N N2 := ⟨h.1.1, h.1.2.1, h.1.2.2.1, h.1.2.2.2, h.2.2⟩
theorem GS.from {J J2 N N2 : Nat → Nat → Int32} (h : GS J J2 N N2) (e : Nat) : m_from J2 N2 e = m_from J N e := by
  obtain ⟨h1, h2, h3, h4, h5⟩ := h
  unfold m_from m_nd m_ns
  rw [h2, h4, h5 30 (by omega) (by omega), h5 31 (by omega) (by omega), h5 36 (by omega) (by omega), h5 42 (by omega) (by omega), h5 43 (by omega) (by omega)]
theorem GS.into {J J2 N N2 : Nat → Nat → Int32} (h : GS J J2 N N2) (e : Nat) : m_into N2 e = m_into N e := by
  obtain ⟨h1, h2, h3, h4, h5⟩ := h
  unfold m_into
  rw [h5 30 (by omega) (by omega), h5 31 (by omega) (by omega), h5 42 (by omega) (by omega), h5 43 (by omega) (by omega)]
theorem GS.px {J J2 N N2 : Nat → Nat → Int32} (h : GS J J2 N N2) (e : Nat) : m_px N2 e = m_px N e := by
  obtain ⟨h1, h2, h3, h4, h5⟩ := h
  unfold m_px
  rw [h5 32 (by omega) (by omega), h5 34 (by omega) (by omega), h5 35 (by omega) (by omega), h5 44 (by omega) (by omega)]
theorem GS.py {J J2 N N2 : Nat → Nat → Int32} (h : GS J J2 N N2) (e : Nat) : m_py N2 e = m_py N e := by
  obtain ⟨h1, h2, h3, h4, h5⟩ := h
  unfold m_py
  rw [h5 33 (by omega) (by omega), h5 34 (by omega) (by omega), h5 35 (by omega) (by omega), h5 45 (by omega) (by omega)]
theorem GS.gx {J J2 N N2 : Nat → Nat → Int32} (h : GS J J2 N N2) : g_x N2 = g_x N := by funext e; unfold g_x; rw [h.px]
theorem GS.gy {J J2 N N2 : Nat → Nat → Int32} (h : GS J J2 N N2) : g_y N2 = g_y N := by funext e; unfold g_y; rw [h.py]
theorem GS.act {J J2 N N2 : Nat → Nat → Int32} (h : GS J J2 N N2) : m_act J2 N2 = m_act J N := by unfold m_act m_actN; simp only [h.from]
theorem GS.least {J J2 N N2 : Nat → Nat → Int32} (h : GS J J2 N N2) : g_least J2 N2 = g_least J N := by
  funext v r b x y
  unfold g_least g_c g_f
  simp only [h.from, h.gx, h.gy, h.act]
theorem GS.ff {J J2 N N2 : Nat → Nat → Int32} (h : GS J J2 N N2) : FF J2 N2 = FF J N := by
  funext v e
  unfold FF
  simp only [h.least, h.gx, h.gy, h.into]
theorem GS.dd {J J2 N N2 : Nat → Nat → Int32} (h : GS J J2 N N2) : ∀ k, DD J2 N2 k = DD J N k
  | 0 => rfl
  | k + 1 => by
    show FF J2 N2 (DD J2 N2 k) = FF J N (DD J N k)
    rw [h.ff, h.dd k]
theorem GS.ll {J J2 N N2 : Nat → Nat → Int32} (h : GS J J2 N N2) : LL J2 N2 = LL J N := h.dd 100
theorem GS.dist {J J2 N N2 : Nat → Nat → Int32} (h : GS J J2 N N2) : m_dist N2 = m_dist N := by
  funext e x y; unfold m_dist; rw [h.px, h.py]
theorem GS.best {J J2 N N2 : Nat → Nat → Int32} (h : GS J J2 N N2) : g_best J2 N2 = g_best J N := by
  funext v r x y
  unfold g_best g_bsl g_bs
  simp only [h.from, h.gx, h.gy, h.act]
theorem GS.a5 {J J2 N N2 : Nat → Nat → Int32} (h : GS J J2 N N2) : a_way J2 N2 = a_way J N := by funext e; unfold a_way; rw [h.from, h.ll]
theorem GH.bb {J N J2 N2 : Nat → Nat → Int32} (h : GH J N J2 N2) (hmi : MI J N) {j : Nat} (hj : j < 20) : BB J2 N2 j = BB J N j := by
  by_cases w : j < m_nr J
  · unfold BB g_mx g_my
    rw [h.gs.best, h.gs.ll, h.2.1 24 (by decide) (by decide) j w, h.2.1 25 (by decide) (by decide) j w, h.2.1 26 (by decide) (by decide) j w, h.2.1 27 (by decide) (by decide) j w]
  · rw [bb_gone hmi hj (fun z => w z.1), bb_gone (hmi.gh h) hj (fun z => w (by rw [← h.nr.1]; exact z.1))]
theorem GH.lea {J N J2 N2 : Nat → Nat → Int32} (h : GH J N J2 N2) (hmi : MI J N) {j : Nat} (hj : j < 20) : lea J2 N2 j = lea J N j := by
  show (BB J2 N2 j).2 = (BB J N j).2
  rw [h.bb hmi hj]
theorem GH.intof {J N J2 N2 : Nat → Nat → Int32} (h : GH J N J2 N2) : m_into N2 = m_into N := by funext e; exact h.gs.into e
theorem lea_to {J N : Nat → Nat → Int32} (hmi : MI J N) {q : Nat} (z : ¬ Jvm.Pilot.CClerestoryPlanLaw_law_r3167_263d5c.lea J N q = 100) : m_into N (Jvm.Pilot.CClerestoryPlanLaw_law_r3167_263d5c.lea J N q) = -1 ∨ ∃ k, k < 20 ∧ m_into N (Jvm.Pilot.CClerestoryPlanLaw_law_r3167_263d5c.lea J N q) = nI k := by
  rcases lea_at (J := J) (N := N) q with w | ⟨w, -⟩
  · exact absurd (by show (BB J N q).2 = 100; rw [w]) z
  · obtain ⟨_, _, _, w2⟩ := m_ends hmi w
    rcases w2 with w2 | ⟨k, k1, -, k3⟩
    · exact Or.inl w2
    · exact Or.inr ⟨k, k1.lt hmi, k3⟩
theorem GH.dep {J N J2 N2 : Nat → Nat → Int32} (h : GH J N J2 N2) (hmi : MI J N) : ∀ f r m, (r = -1 ∨ ∃ q, q < 20 ∧ r = nI q) → g_dep J2 N2 f r m = g_dep J N f r m
  | 0, _, _, _ => rfl
  | f + 1, r, m, hr => by
    unfold g_dep
    rcases hr with rfl | ⟨q, hq, rfl⟩
    · rw [if_pos rfl, if_pos rfl]
    · rw [if_neg (nI_ne1 (by omega)), if_neg (nI_ne1 (by omega)), n_cl (by omega), h.lea hmi hq, h.intof]
      by_cases z : Jvm.Pilot.CClerestoryPlanLaw_law_r3167_263d5c.lea J N q = 100
      · rw [if_pos z, if_pos z]
      · rw [if_neg z, if_neg z]
        exact GH.dep h hmi f _ _ (lea_to hmi z)
theorem GH.deep {J N J2 N2 : Nat → Nat → Int32} (h : GH J N J2 N2) (hmi : MI J N) {j : Nat} (hj : j < 20) : g_deep J2 N2 j = g_deep J N j := h.dep hmi _ _ _ (Or.inr ⟨j, hj, rfl⟩)
theorem GH.cor {J N J2 N2 : Nat → Nat → Int32} (h : GH J N J2 N2) {j : Nat} (hj : j < m_nr J) (c : Nat) : g_cor J2 N2 j c = g_cor J N j c := by
  unfold g_cor
  rw [h.gs.least, h.gs.ll, h.2.1 24 (by decide) (by decide) j hj, h.2.1 25 (by decide) (by decide) j hj, h.2.1 26 (by decide) (by decide) j hj, h.2.1 27 (by decide) (by decide) j hj]
theorem GH.far {J N J2 N2 : Nat → Nat → Int32} (h : GH J N J2 N2) {j : Nat} (hj : j < m_nr J) : ∀ c, g_far J2 N2 j c = g_far J N j c
  | 0 => rfl
  | c + 1 => by rw [g_far, g_far, GH.far h hj c, h.cor hj]
theorem GH.a1 {J N J2 N2 : Nat → Nat → Int32} (h : GH J N J2 N2) (hmi : MI J N) {j : Nat} (hj : j < 20) : a_isLost J2 N2 j = a_isLost J N j := by unfold a_isLost; rw [h.lea hmi hj]
theorem GH.a2 {J N J2 N2 : Nat → Nat → Int32} (h : GH J N J2 N2) (hmi : MI J N) {j : Nat} (hj : j < 20) : a_far J2 N2 j = a_far J N j := by
  unfold a_far
  rw [h.lea hmi hj]
  by_cases w : j < m_nr J
  · rw [h.far w]
  · have : Jvm.Pilot.CClerestoryPlanLaw_law_r3167_263d5c.lea J N j = 100 := by
      show (BB J N j).2 = 100
      rw [bb_gone hmi hj (fun z => w z.1)]
    rw [if_pos this, if_pos this]
theorem GH.a3 {J N J2 N2 : Nat → Nat → Int32} (h : GH J N J2 N2) (hmi : MI J N) {j : Nat} (hj : j < 20) : a_leav J2 N2 j = a_leav J N j := by unfold a_leav; rw [h.lea hmi hj]
theorem GH.a4 {J N J2 N2 : Nat → Nat → Int32} (h : GH J N J2 N2) (hmi : MI J N) {j : Nat} (hj : j < 20) : a_mid J2 N2 j = a_mid J N j := by unfold a_mid; rw [h.lea hmi hj, h.bb hmi hj]
theorem GH.ldp {J N J2 N2 : Nat → Nat → Int32} (h : GH J N J2 N2) (hmi : MI J N) (k : Nat) (p : Int32) : ∀ f r s m, (r = -1 ∨ ∃ q, q < 20 ∧ r = nI q) → ¬ g_dep J N f r m = -1 → g_ldp J2 N2 k p f r s = g_ldp J N k p f r s
  | 0, _, _, _, _, _ => rfl
  | f + 1, r, s, m, hr, hd => by
    rw [g_ldp, g_ldp]
    unfold g_dep at hd
    rcases hr with rfl | ⟨q, hq, rfl⟩
    · rw [if_pos rfl, if_pos rfl]
    · rw [if_neg (nI_ne1 (by omega)), n_cl (by omega)] at hd
      rw [if_neg (nI_ne1 (by omega)), if_neg (nI_ne1 (by omega)), n_cl (by omega), h.lea hmi hq, h.intof]
      by_cases z : Jvm.Pilot.CClerestoryPlanLaw_law_r3167_263d5c.lea J N q = 100
      · rw [if_pos z] at hd
        exact absurd rfl hd
      · rw [if_neg z] at hd
        exact GH.ldp h hmi k p f _ _ _ (lea_to hmi z) hd
theorem GH.ld {J N J2 N2 : Nat → Nat → Int32} (h : GH J N J2 N2) (hmi : MI J N) (k : Nat) : ∀ r, r ≤ m_nr J → g_ld J2 N2 k r = g_ld J N k r
  | 0, _ => rfl
  | r + 1, hr => by
    have r20 := hmi.1.1.2
    rw [g_ld, g_ld, GH.ld h hmi k r (by omega), h.deep hmi (by omega), h.2.1 23 (by decide) (by decide) r (by omega), h.2.1 29 (by decide) (by decide) r (by omega)]
    by_cases z : N 23 r = -2 ∨ g_deep J N r = -1
    · rw [if_pos z, if_pos z]
    · rw [if_neg z, if_neg z]
      exact h.ldp hmi k _ _ _ _ _ (Or.inr ⟨r, by omega, rfl⟩) (fun w => z (Or.inr w))
theorem GH.a6 {J N J2 N2 : Nat → Nat → Int32} (h : GH J N J2 N2) (hmi : MI J N) : a_load J2 N2 = a_load J N := by
  funext k
  unfold a_load
  rw [h.nr.1, h.ld hmi k _ (Nat.le_refl _)]
theorem GH.wet {J N J2 N2 : Nat → Nat → Int32} (h : GH J N J2 N2) {r : Nat} (hr : r < m_nr J) : a_wet J2 N2 r = a_wet J N r := by
  unfold a_wet
  rw [h.nr.1]
  refine m_sum_cong (fun o ho => ?_)
  have e := fun k (z1 : 23 ≤ k) (z2 : k ≤ 29) => And.intro (h.2.1 k z1 z2 r hr) (h.2.1 k z1 z2 o ho)
  unfold m_wf m_area
  rw [(e 23 (by decide) (by decide)).1, (e 23 (by decide) (by decide)).2, (e 24 (by decide) (by decide)).1, (e 24 (by decide) (by decide)).2, (e 25 (by decide) (by decide)).1, (e 25 (by decide) (by decide)).2, (e 26 (by decide) (by decide)).1, (e 26 (by decide) (by decide)).2, (e 27 (by decide) (by decide)).1, (e 27 (by decide) (by decide)).2, (e 28 (by decide) (by decide)).2]
theorem GH.light {J N J2 N2 : Nat → Nat → Int32} (h : GH J N J2 N2) : m_light J2 N2 = m_light J N := by
  funext r; unfold m_light; rw [h.nr.2.2.1]; congr 1; funext k; unfold m_lf; rw [h.2.2 37 (by decide) (by decide), h.2.2 40 (by decide) (by decide)]
theorem GH.ex {J N J2 N2 : Nat → Nat → Int32} (h : GH J N J2 N2) : a_ex J2 N2 = a_ex J N := by
  funext r; unfold a_ex g_ex; rw [h.gs.act]; congr 1; funext e; rw [h.gs.from]
theorem GH.by {J N J2 N2 : Nat → Nat → Int32} (h : GH J N J2 N2) (hmi : MI J N) (rule : Nat) {r : Nat} (hr : r < m_nr J) : a_by J2 N2 rule r = a_by J N rule r := by
  have r20 : r < 20 := Nat.lt_of_lt_of_le hr hmi.1.1.2
  have e := fun k (z1 : 23 ≤ k) (z2 : k ≤ 29) => h.2.1 k z1 z2 r hr
  unfold a_by
  rw [h.deep hmi r20, h.lea hmi r20, h.a2 hmi r20, h.light, h.ex, h.wet hr, e 26 (by decide) (by decide), e 27 (by decide) (by decide), e 28 (by decide) (by decide), e 29 (by decide) (by decide), h.2.2 46 (by decide) (by decide)]
theorem GH.amt {J N J2 N2 : Nat → Nat → Int32} (h : GH J N J2 N2) (hmi : MI J N) : a_amt J2 N2 = a_amt J N := by
  funext rule i
  unfold a_amt
  rw [h.nr.2.1, h.nr.2.2.2, h.nr.1, h.a6 hmi, h.2.2 30 (by decide) (by decide), h.2.2 34 (by decide) (by decide), h.2.2 42 (by decide) (by decide), h.2.2 46 (by decide) (by decide)]
  have e : (if i < m_nr J ∧ ¬ N2 23 i = -2 then a_by J2 N2 rule i else 0) = if i < m_nr J ∧ ¬ N 23 i = -2 then a_by J N rule i else 0 := by
    by_cases w : i < m_nr J
    · rw [h.2.1 23 (by decide) (by decide) i w, h.by hmi rule w]
    · rw [if_neg (fun z => w z.1), if_neg (fun z => w z.1)]
  rw [e]
theorem GH.told {J N J2 N2 : Nat → Nat → Int32} (h : GH J N J2 N2) (hmi : MI J N) (rule : Nat) : ∀ n, a_told J2 N2 rule n = a_told J N rule n
  | 0 => rfl
  | n + 1 => by rw [a_told, a_told, GH.told h hmi rule n, a_tl, a_tl, h.amt hmi]
theorem GH.fl {J N J2 N2 : Nat → Nat → Int32} (h : GH J N J2 N2) (hmi : MI J N) : ∀ n, a_fl J2 N2 n = a_fl J N n
  | 0 => rfl
  | n + 1 => by rw [a_fl, a_fl, GH.fl h hmi n, h.told hmi]
theorem CF.gh {J N J1 N1 J2 N2 : Nat → Nat → Int32} (hc : CF J N J1 N1) (h : GH J N J2 N2) (hmi : MI J N) : CF J2 N2 J1 N1 := by
  obtain ⟨c1, ⟨c2, c3, c4⟩, c5⟩ := hc
  refine ⟨c1, ⟨fun i hi => ?_, fun i hi => ?_, fun k hk => ?_⟩, ?_⟩
  · rw [h.gs.a5]; exact c2 i hi
  · rw [h.a6 hmi]; exact c3 i hi
  · rw [h.lea hmi hk, h.a4 hmi hk, h.a2 hmi hk, h.deep hmi hk]; exact c4 k hk
  · rw [h.fl hmi]; exact c5
/-- the class goes on beside the rows that the reference has now -/
theorem IC.gh {E : zk_E} {sz : Nat} {J N J1 N1 J2 N2 : Nat → Nat → Int32} {Q : Nat → Nat → Option Nat} {O : zk_Hp} {U : zk_U} (hi : IC E sz (J1, N1, Q, O, U) J N) (h : GH J N J2 N2) : IC E sz (J1, N1, Q, O, U) J2 N2 := by
  obtain ⟨h1, h2, h3⟩ := hi
  refine ⟨h1.gh h, ?_, h3.imp id (fun hc => hc.gh h h1)⟩
  rw [h.wide0]
  exact h2.gh h1 h


