/-! what the reference's call does behind the class's -/
theorem ES.isR {J J2 N N2 : Nat → Nat → Int32} (h : ES J J2 N N2) : m_isRoom J2 N2 = m_isRoom J N := by funext r; unfold m_isRoom; rw [h.1, h.n (o := 23) (by decide)]
theorem ES.isD {J J2 N N2 : Nat → Nat → Int32} (h : ES J J2 N N2) : m_isDoor J2 N2 = m_isDoor J N := by funext r; unfold m_isDoor; rw [h.2.1, h.n (o := 30) (by decide)]
theorem ES.isS {J J2 N N2 : Nat → Nat → Int32} (h : ES J J2 N N2) : m_isStairs J2 N2 = m_isStairs J N := by funext r; unfold m_isStairs; rw [h.2.2.2.1, h.n (o := 42) (by decide)]
theorem ES.rd {J J2 N N2 : Nat → Nat → Int32} (h : ES J J2 N N2) : RD J2 N2 = RD J N := by funext r A B; unfold RD; rw [h.mr, h.isR]
theorem ES.drd {J J2 N N2 : Nat → Nat → Int32} (h : ES J J2 N N2) : DRD J2 N2 = DRD J N := by funext r A B; unfold DRD; rw [h.md, h.isD]
theorem ES.trd {J J2 N N2 : Nat → Nat → Int32} (h : ES J J2 N N2) : TRD J2 N2 = TRD J N := by funext r A B; unfold TRD; rw [h.mt, h.isS]
theorem ES.od {J J2 N N2 : Nat → Nat → Int32} (h : ES J J2 N N2) : OD J2 N2 = OD J N := by funext r A B; unfold OD; rw [h.mr, h.isR]
theorem ES.hit {J J2 N N2 : Nat → Nat → Int32} (h : ES J J2 N N2) : m_hit N2 = m_hit N := by
  funext fl x y w hh r
  unfold m_hit
  rw [h.n (o := 23) (by decide), h.n (o := 24) (by decide), h.n (o := 25) (by decide), h.n (o := 26) (by decide), h.n (o := 27) (by decide)]
theorem ES.croom {J J2 N N2 : Nat → Nat → Int32} (h : ES J J2 N N2) : c_room J2 N2 = c_room J N := by funext fl x y w hh u; unfold c_room; rw [h.hit, h.nr]
theorem ES.q30 {J J2 N N2 : Nat → Nat → Int32} (h : ES J J2 N N2) : q_30 N2 = q_30 N := by funext r d; unfold q_30; rw [h.n (o := 30) (by decide), h.n (o := 31) (by decide)]
theorem ES.q37 {J J2 N N2 : Nat → Nat → Int32} (h : ES J J2 N N2) : q_37 N2 = q_37 N := by funext r d; unfold q_37; rw [h.n (o := 37) (by decide)]
theorem ES.q42 {J J2 N N2 : Nat → Nat → Int32} (h : ES J J2 N N2) : q_42 N2 = q_42 N := by funext r d; unfold q_42; rw [h.n (o := 42) (by decide), h.n (o := 43) (by decide)]
theorem ES.arm {J J2 N N2 : Nat → Nat → Int32} (h : ES J J2 N N2) : a_rm J2 N2 = a_rm J N := by funext j; unfold a_rm; rw [h.q30, h.q37, h.q42, h.nd, h.nw, h.ns]
theorem ES.mons {J J2 N N2 : Nat → Nat → Int32} (h : ES J J2 N N2) : m_onSides N2 = m_onSides N := by
  funext r ix iy up iw
  unfold m_onSides
  rw [h.n (o := 24) (by decide), h.n (o := 25) (by decide), h.n (o := 26) (by decide), h.n (o := 27) (by decide)]
theorem ES.cbR {J J2 N N2 : Nat → Nat → Int32} (h : ES J J2 N N2) : m_cbR N2 = m_cbR N := by funext j ix iy up iw r; unfold m_cbR; rw [h.mons, h.n (o := 23) (by decide)]
theorem ES.cbD {J J2 N N2 : Nat → Nat → Int32} (h : ES J J2 N N2) : m_cbD N2 = m_cbD N := by
  funext j ix iy up iw d
  unfold m_cbD
  rw [h.n (o := 23) (by decide), h.n (o := 30) (by decide), h.n (o := 32) (by decide), h.n (o := 33) (by decide), h.n (o := 34) (by decide), h.n (o := 35) (by decide)]
theorem ES.cbW {J J2 N N2 : Nat → Nat → Int32} (h : ES J J2 N N2) : m_cbW N2 = m_cbW N := by
  funext j ix iy up iw d
  unfold m_cbW
  rw [h.n (o := 23) (by decide), h.n (o := 37) (by decide), h.n (o := 38) (by decide), h.n (o := 39) (by decide), h.n (o := 40) (by decide), h.n (o := 41) (by decide)]
theorem ES.can {J J2 N N2 : Nat → Nat → Int32} (h : ES J J2 N N2) : m_canBe J2 N2 = m_canBe J N := by
  funext j o ix iy up iw
  unfold m_canBe
  rw [h.mons, h.cbR, h.cbD, h.cbW, h.nr, h.nd, h.nw]
theorem ES.cdoor {J J2 N N2 : Nat → Nat → Int32} (h : ES J J2 N N2) : c_door J2 N2 = c_door J N := by funext j o ix iy up w; unfold c_door; rw [h.can, h.nd, h.n (o := 23) (by decide)]
theorem ES.cwin {J J2 N N2 : Nat → Nat → Int32} (h : ES J J2 N N2) : c_win J2 N2 = c_win J N := by funext j ix iy up w; unfold c_win; rw [h.can, h.nw]
theorem ES.lwin {J J2 N N2 : Nat → Nat → Int32} (h : ES J J2 N N2) (r x y up w : Int32) : m_light (uJ_win J2) (uN_win N2 (m_nw J2) r x y up w) r = m_light (uJ_win J) (uN_win N (m_nw J) r x y up w) r := by
  have e1 : m_nw (uJ_win J2) = m_nw (uJ_win J) := by
    show (J2 22 17 + 1).toNatClampNeg = (J 22 17 + 1).toNatClampNeg
    rw [h.2.2.1]
  have e2 : m_lf (uN_win N2 (m_nw J2) r x y up w) = m_lf (uN_win N (m_nw J) r x y up w) := by
    funext q k
    show (if (upd (N2 37) (m_nw J2) r) k = q then (upd (N2 40) (m_nw J2) w) k else 0) = (if (upd (N 37) (m_nw J) r) k = q then (upd (N 40) (m_nw J) w) k else 0)
    rw [h.nw, h.n (o := 37) (by decide), h.n (o := 40) (by decide)]
  unfold m_light
  rw [e1, e2]
theorem ES.cst {J J2 N N2 : Nat → Nat → Int32} (h : ES J J2 N N2) : c_st J2 N2 = c_st J N := by
  funext lo hi x y
  unfold c_st m_pt
  rw [h.2.2.2.1, h.n (o := 23) (by decide), h.n (o := 24) (by decide), h.n (o := 25) (by decide), h.n (o := 26) (by decide), h.n (o := 27) (by decide)]
theorem ES.vst {J J2 N N2 : Nat → Nat → Int32} (h : ES J J2 N N2) (hms : MS J) : J2 22 23 = nI (m_ns J) := h.2.2.2.1.trans hms.2.2.2.1
theorem ES.drmD {J J2 N N2 : Nat → Nat → Int32} (h : ES J J2 N N2) (j : Nat) : m_doorsNow J2 (uN_rmD N2 j) = m_doorsNow J (uN_rmD N j) := by
  show m_sum (m_cf (upd (N2 30) j (-2))) (m_nd J2) = m_sum (m_cf (upd (N 30) j (-2))) (m_nd J)
  rw [h.nd, h.n (o := 30) (by decide)]
theorem ES.atf {J J2 N N2 : Nat → Nat → Int32} (h : ES J J2 N N2) : m_atf N2 = m_atf N := by
  funext fl x y r
  unfold m_atf
  rw [h.n (o := 23) (by decide), h.n (o := 24) (by decide), h.n (o := 25) (by decide), h.n (o := 26) (by decide), h.n (o := 27) (by decide)]
theorem ES.at {J J2 N N2 : Nat → Nat → Int32} (h : ES J J2 N N2) : a_at J2 N2 = a_at J N := by funext fl x y; unfold a_at; rw [h.atf, h.nr]
theorem ES.jn {J J2 N N2 : Nat → Nat → Int32} (h : ES J J2 N N2) : a_join J2 N2 = a_join J N := by
  have e : m_jf N2 = m_jf N := by funext a b d; unfold m_jf; rw [h.n (o := 30) (by decide), h.n (o := 31) (by decide)]
  funext a b
  unfold a_join
  rw [e, h.nd]
theorem ES.tgl {J J2 N N2 : Nat → Nat → Int32} (h : ES J J2 N N2) (j : Nat) : ES J J2 (m_tgl N j) (m_tgl N2 j) := by
  have e : N2 36 = N 36 := h.n (by decide)
  unfold m_tgl
  rw [e]
  exact h.un2 36 _
theorem ES.tgf {J J2 N N2 : Nat → Nat → Int32} (h : ES J J2 N N2) (j : Nat) : a_faults J2 (m_tgl N2 j) = a_faults J (m_tgl N j) := (h.tgl j).faults
theorem ES.tgs {J J2 N N2 : Nat → Nat → Int32} (h : ES J J2 N N2) (j : Nat) : a_stuck J2 (m_tgl N2 j) = a_stuck J (m_tgl N j) := (h.tgl j).stuck
theorem ES.n36 {J J2 N N2 : Nat → Nat → Int32} (h : ES J J2 N N2) : N2 36 = N 36 := h.n (by decide)
theorem wq_thr {J J2 N N2 : Nat → Nat → Int32} {t : Int32} (h : WQ J J2 N N2 t) : J2 22 0 = t := by rw [h.1]; exact if_pos ⟨rfl, rfl⟩
/-- rows below 22 stay under a change of the reference -/
theorem n_low {α : Type} {N : Nat → α} {k o : Nat} {A : α} (ho : o < 22) (hk : 22 ≤ k) : zk_un N k A o = N o := by unfold zk_un; rw [if_neg (by omega)]
theorem uj_low {J : Nat → Nat → Int32} {k o : Nat} {x : Int32} (ho : o < 22) : zk_uj J 22 k x o = J o := by funext q; unfold zk_uj; rw [if_neg (by omega)]
theorem gh_of {J N J3 N3 : Nat → Nat → Int32} (hj : J3 22 1 = J 22 1 ∧ J3 22 9 = J 22 9 ∧ J3 22 17 = J 22 17 ∧ J3 22 23 = J 22 23) (hn : ∀ o, 22 ≤ o → N3 o = N o) : GH J N J3 N3 := ⟨hj, fun o h1 _ k _ => by rw [hn o (by omega)], fun o h1 _ => hn o (by omega)⟩
theorem jg_0 {J J2 : Nat → Nat → Int32} (h : ∀ o, 22 ≤ o → J2 o = J o) : zk_uj J2 22 0 0 22 1 = J 22 1 ∧ zk_uj J2 22 0 0 22 9 = J 22 9 ∧ zk_uj J2 22 0 0 22 17 = J 22 17 ∧ zk_uj J2 22 0 0 22 23 = J 22 23 := by
  have e := h 22 (by decide)
  refine ⟨?_, ?_, ?_, ?_⟩ <;> simp [zk_uj, e]
theorem jg_room {J J2 : Nat → Nat → Int32} (h : ∀ o, 22 ≤ o → J2 o = J o) : uJ_room (zk_uj J2 22 0 0) 22 1 = uJ_room J 22 1 ∧ uJ_room (zk_uj J2 22 0 0) 22 9 = uJ_room J 22 9 ∧ uJ_room (zk_uj J2 22 0 0) 22 17 = uJ_room J 22 17 ∧ uJ_room (zk_uj J2 22 0 0) 22 23 = uJ_room J 22 23 := by
  have e := h 22 (by decide)
  refine ⟨?_, ?_, ?_, ?_⟩ <;> simp [uJ_room, zk_uj, e]
theorem jg_door {J J2 : Nat → Nat → Int32} (h : ∀ o, 22 ≤ o → J2 o = J o) : uJ_door (zk_uj J2 22 0 0) 22 1 = uJ_door J 22 1 ∧ uJ_door (zk_uj J2 22 0 0) 22 9 = uJ_door J 22 9 ∧ uJ_door (zk_uj J2 22 0 0) 22 17 = uJ_door J 22 17 ∧ uJ_door (zk_uj J2 22 0 0) 22 23 = uJ_door J 22 23 := by
  have e := h 22 (by decide)
  refine ⟨?_, ?_, ?_, ?_⟩ <;> simp [uJ_door, zk_uj, e]
theorem jg_win {J J2 : Nat → Nat → Int32} (h : ∀ o, 22 ≤ o → J2 o = J o) : uJ_win (zk_uj J2 22 0 0) 22 1 = uJ_win J 22 1 ∧ uJ_win (zk_uj J2 22 0 0) 22 9 = uJ_win J 22 9 ∧ uJ_win (zk_uj J2 22 0 0) 22 17 = uJ_win J 22 17 ∧ uJ_win (zk_uj J2 22 0 0) 22 23 = uJ_win J 22 23 := by
  have e := h 22 (by decide)
  refine ⟨?_, ?_, ?_, ?_⟩ <;> simp [uJ_win, zk_uj, e]
theorem jg_st {J J2 : Nat → Nat → Int32} (h : ∀ o, 22 ≤ o → J2 o = J o) : uJ_st (zk_uj J2 22 0 0) 22 1 = uJ_st J 22 1 ∧ uJ_st (zk_uj J2 22 0 0) 22 9 = uJ_st J 22 9 ∧ uJ_st (zk_uj J2 22 0 0) 22 17 = uJ_st J 22 17 ∧ uJ_st (zk_uj J2 22 0 0) 22 23 = uJ_st J 22 23 := by
  have e := h 22 (by decide)
  refine ⟨?_, ?_, ?_, ?_⟩ <;> simp [uJ_st, zk_uj, e]
theorem room_mi {J N : Nat → Nat → Int32} (hm : MI J N) {fl x y w h u : Int32} (hc : c_room J N fl x y w h u = 0) : MI (uJ_room J) (uN_room N (m_nr J) fl x y w h u) := by
  unfold c_room at hc
  by_cases q : m_okR fl x y w h u = false
  · rw [if_pos q] at hc; exact absurd hc (by decide)
  · rw [if_neg q] at hc
    by_cases q2 : m_nr J = 20
    · rw [if_pos q2] at hc; exact absurd hc (by decide)
    · exact (hm.room (by simpa using q) q2).1
theorem lim_mi {J N : Nat → Nat → Int32} (hm : MI J N) {r l : Int32} (hc : c_lim r l = 0) : MI J (uN_lim N r.toNatClampNeg l) := by
  unfold c_lim at hc
  by_cases q : m_isIn r 0 9 = false
  · rw [if_pos q] at hc; exact absurd hc (by decide)
  · rw [if_neg q] at hc
    by_cases q2 : m_isIn l 0 999 = false
    · rw [if_pos q2] at hc; exact absurd hc (by decide)
    · exact hm.lim (by simpa using q2)
theorem st_mi {J N : Nat → Nat → Int32} (hm : MI J N) {j k : Nat} {x y : Int32} (hj : MR J N j) (hk : MR J N k) (hc : c_st J N j k x y = 0) : MI (uJ_st J) (uN_st N (m_ns J) (nI j) (nI k) x y) := by
  unfold c_st at hc
  by_cases q : ¬ N 23 k = N 23 j + 1 ∨ m_pt N j x y = false ∨ m_pt N k x y = false
  · rw [if_pos q] at hc; exact absurd hc (by decide)
  · rw [if_neg q] at hc
    by_cases q2 : J 22 23 = 10
    · rw [if_pos q2] at hc; exact absurd hc (by decide)
    · have h10 := hm.1.2.2.2
      have n10 : ¬ m_ns J = 10 := fun w => q2 (by rw [h10.1, w]; rfl)
      have p1 : m_pt N j x y = true := by
        cases e : m_pt N j x y with
        | true => rfl
        | false => exact absurd (Or.inr (Or.inl e)) q
      have p2 : N 23 k = N 23 j + 1 := Classical.byContradiction (fun w => q (Or.inl w))
      refine (hm.st hj hk (fun w => ?_) (by omega) (m_pt_rg (GR.of hm hj.1) p1)).1
      subst w
      exact absurd p2 (fun w => by
        have h9 : N 23 k - N 23 k = 1 + N 23 k - N 23 k := by rw [Int32.add_comm, ← w]
        rw [Int32.sub_self, Int32.add_sub_cancel] at h9
        exact absurd h9 (by decide))
theorem jt_0 {J2 : Nat → Nat → Int32} : zk_uj J2 22 0 0 22 0 = 0 := if_pos ⟨rfl, rfl⟩
theorem jt_room {J2 : Nat → Nat → Int32} : uJ_room (zk_uj J2 22 0 0) 22 0 = 0 := by simp [uJ_room, zk_uj]
theorem jt_door {J2 : Nat → Nat → Int32} : uJ_door (zk_uj J2 22 0 0) 22 0 = 0 := by simp [uJ_door, zk_uj]
theorem jt_win {J2 : Nat → Nat → Int32} : uJ_win (zk_uj J2 22 0 0) 22 0 = 0 := by simp [uJ_win, zk_uj]
theorem jt_st {J2 : Nat → Nat → Int32} : uJ_st (zk_uj J2 22 0 0) 22 0 = 0 := by simp [uJ_st, zk_uj]
theorem ref_addRoom {E : zk_E} {σ : zk_S} {sz : Nat} {fl x y w hh u : Int32} (hli : LI E sz σ) {k : Int32} {σ2 : zk_S} {sz2 : Nat} (hr : R_addRoom E σ sz fl x y w hh u k σ2 sz2) {P : zk_P zk_S} {PX : zk_X zk_S} (h : ∀ b σ3 sz3, LI E sz3 σ3 → σ3.1 22 0 = k → (k = 0 → σ3.2.2.2.2 0 = b.toInt64) → P (some (.int b)) σ3 sz3) : sp_X11_addRoom E [.ref (zk_ad E 22), .int fl, .int x, .int y, .int w, .int hh, .int u] σ2 sz2 P PX := by
  rw [spe_X11_addRoom]
  unfold R_addRoom at hr
  obtain ⟨J, N, Q, O, U⟩ := σ
  obtain ⟨J2, N2, Q2, O2, U2⟩ := σ2
  have hmi : MI J N := hli.2.1
  have hms := hmi.1
  try dsimp only at hr ⊢
  have hes : ES J J2 N N2 := by
    rcases hr with ⟨_, hr⟩ | ⟨_, hr⟩
    · exact hr.2.es
    · exact hr.2.es
  refine ⟨rfl, hes.mi hmi, ?_⟩
  simp only [hes.croom, hes.nr]
  rcases hr with ⟨hc, hk, hlc⟩ | ⟨hc, hr⟩
  · refine ⟨fun _ => ?_, fun w => absurd w hc⟩
    exact fun J3 N3 hq => h _ _ _ (LC.wq hli hlc hq) ((wq_thr hq).trans hk.symm) (fun e => absurd (hk.symm.trans e) hc)
  · refine ⟨fun w => absurd hc w, fun _ => ?_⟩
    obtain ⟨⟨hk, hu⟩, hlc⟩ := hr
    have hJ : ∀ o, 22 ≤ o → J2 o = J o := hlc.2.1
    have hN : ∀ o, 22 ≤ o → N2 o = N o := hlc.2.2.1
    have hmg := room_mi hmi hc
    exact h _ _ _ (LC.go hli hlc hmg (fun o ho => (by first | exact uj_low ho | exact (uj_low ho).trans (uj_low ho))) (fun o ho => by simp only [uN_room, zk_un]; repeat rw [if_neg (by omega)]) (fun _ _ => rfl) (Nat.le_refl _) (gh_of (jg_room hJ) (fun o ho => by simp only [uN_room, zk_un, hN 23 (by decide), hN 24 (by decide), hN 25 (by decide), hN 26 (by decide), hN 27 (by decide), hN 28 (by decide), hN 29 (by decide), hN o ho]))) ((jt_room (J2 := J2)).trans hk.symm) (fun _ => hu)
theorem ref_removeRoom {E : zk_E} {σ : zk_S} {sz : Nat} {r : Int32} (hli : LI E sz σ) {k : Int32} {σ2 : zk_S} {sz2 : Nat} (hr : R_removeRoom E σ sz r k σ2 sz2) {P : zk_P zk_S} {PX : zk_X zk_S} (h : ∀ b σ3 sz3, LI E sz3 σ3 → σ3.1 22 0 = k → (k = 0 → σ3.2.2.2.2 0 = b.toInt64) → P (some (.int b)) σ3 sz3) : sp_X11_removeRoom E [.ref (zk_ad E 22), .int r] σ2 sz2 P PX := by
  rw [spe_X11_removeRoom]
  unfold R_removeRoom at hr
  obtain ⟨J, N, Q, O, U⟩ := σ
  obtain ⟨J2, N2, Q2, O2, U2⟩ := σ2
  have hmi : MI J N := hli.2.1
  have hms := hmi.1
  try dsimp only at hr ⊢
  have hes : ES J J2 N N2 := by
    rcases hr with ⟨_, _, _, hr⟩ | ⟨_, hr⟩
    · exact hr.2.es
    · exact hr.2.es
  refine ⟨rfl, hes.mi hmi, ?_⟩
  simp only [hes.rd, hes.arm]
  rcases hr with ⟨j, hj, ej, hr⟩ | ⟨ej, hr⟩
  · refine Or.inl ⟨j, hj, ej, ?_⟩
    obtain ⟨⟨hk, hu⟩, hlc⟩ := hr
    have hJ : ∀ o, 22 ≤ o → J2 o = J o := hlc.2.1
    have hN : ∀ o, 22 ≤ o → N2 o = N o := hlc.2.2.1
    have hmg := MI.rm hmi hj
    exact h _ _ _ (LC.go hli hlc hmg (fun o ho => (by first | exact uj_low ho | exact (uj_low ho).trans (uj_low ho))) (fun o ho => by simp only [uN_rm, zk_un]; repeat rw [if_neg (by omega)]) (fun _ _ => rfl) (Nat.le_refl _) (gh_of (jg_0 hJ) (fun o ho => by simp only [uN_rm, zk_un, hes.q30, hes.q37, hes.q42, hes.nd, hes.nw, hes.ns, hN 30 (by decide), hN 37 (by decide), hN 42 (by decide), hN 23 (by decide), hN o ho]))) ((jt_0 (J2 := J2)).trans hk.symm) (fun _ => hu)
  · refine Or.inr ⟨ej, ?_⟩
    obtain ⟨hk, hlc⟩ := hr
    exact fun J3 N3 O3 sz3 hq hO hz => h _ _ _ (LC.qe hli hlc hq hO hz) (hq.2.trans hk.symm) (fun e => absurd (hk.symm.trans e) (by decide))
theorem ref_setPeople {E : zk_E} {σ : zk_S} {sz : Nat} {r p : Int32} (hli : LI E sz σ) {k : Int32} {σ2 : zk_S} {sz2 : Nat} (hr : R_setPeople E σ sz r p k σ2 sz2) {P : zk_P zk_S} {PX : zk_X zk_S} (h : ∀ b σ3 sz3, LI E sz3 σ3 → σ3.1 22 0 = k → (k = 0 → σ3.2.2.2.2 0 = b.toInt64) → P (some (.int b)) σ3 sz3) : sp_X11_setPeople E [.ref (zk_ad E 22), .int r, .int p] σ2 sz2 P PX := by
  rw [spe_X11_setPeople]
  unfold R_setPeople at hr
  obtain ⟨J, N, Q, O, U⟩ := σ
  obtain ⟨J2, N2, Q2, O2, U2⟩ := σ2
  have hmi : MI J N := hli.2.1
  have hms := hmi.1
  try dsimp only at hr ⊢
  have hes : ES J J2 N N2 := by
    rcases hr with ⟨_, _, _, hr⟩ | ⟨_, hr⟩
    · rcases hr with ⟨_, hr⟩ | ⟨_, hr⟩
      · exact hr.2.es
      · exact hr.2.es
    · exact hr.2.es
  refine ⟨rfl, hes.mi hmi, ?_⟩
  simp only [hes.rd]
  rcases hr with ⟨j, hj, ej, hr⟩ | ⟨ej, hr⟩
  · refine Or.inl ⟨j, hj, ej, ?_⟩
    rcases hr with ⟨hc, hr⟩ | ⟨hc, hr⟩
    · refine ⟨fun _ => ?_, fun w => absurd (hc.symm.trans w) (by decide)⟩
      obtain ⟨hk, hlc⟩ := hr
      exact fun J3 N3 O3 sz3 hq hO hz => h _ _ _ (LC.qe hli hlc hq hO hz) (hq.2.trans hk.symm) (fun e => absurd (hk.symm.trans e) (by decide))
    · refine ⟨fun w => absurd (hc.symm.trans w) (by decide), fun _ => ?_⟩
      obtain ⟨⟨hk, hu⟩, hlc⟩ := hr
      have hJ : ∀ o, 22 ≤ o → J2 o = J o := hlc.2.1
      have hN : ∀ o, 22 ≤ o → N2 o = N o := hlc.2.2.1
      have hmg := MI.ppl (j := j) hmi hc
      exact h _ _ _ (LC.go hli hlc hmg (fun o ho => (by first | exact uj_low ho | exact (uj_low ho).trans (uj_low ho))) (fun o ho => by simp only [uN_ppl, zk_un]; repeat rw [if_neg (by omega)]) (fun _ _ => rfl) (Nat.le_refl _) (gh_of (jg_0 hJ) (fun o ho => by simp only [uN_ppl, zk_un, hN 29 (by decide), hN o ho]))) ((jt_0 (J2 := J2)).trans hk.symm) (fun _ => (by rw [hN 29 (by decide)]; exact hu))
  · refine Or.inr ⟨ej, ?_⟩
    obtain ⟨hk, hlc⟩ := hr
    exact fun J3 N3 O3 sz3 hq hO hz => h _ _ _ (LC.qe hli hlc hq hO hz) (hq.2.trans hk.symm) (fun e => absurd (hk.symm.trans e) (by decide))
theorem ref_addDoor {E : zk_E} {σ : zk_S} {sz : Nat} {r o2 x y up w : Int32} (hup : up = 0 ∨ up = 1) (hli : LI E sz σ) {k : Int32} {σ2 : zk_S} {sz2 : Nat} (hr : R_addDoor E σ sz r o2 x y up w k σ2 sz2) {P : zk_P zk_S} {PX : zk_X zk_S} (h : ∀ b σ3 sz3, LI E sz3 σ3 → σ3.1 22 0 = k → (k = 0 → σ3.2.2.2.2 0 = b.toInt64) → P (some (.int b)) σ3 sz3) : sp_X11_addDoor E [.ref (zk_ad E 22), .int r, .int o2, .int x, .int y, .int up, .int w] σ2 sz2 P PX := by
  rw [spe_X11_addDoor]
  unfold R_addDoor at hr
  obtain ⟨J, N, Q, O, U⟩ := σ
  obtain ⟨J2, N2, Q2, O2, U2⟩ := σ2
  have hmi : MI J N := hli.2.1
  have hms := hmi.1
  try dsimp only at hr ⊢
  have hes : ES J J2 N N2 := by
    rcases hr with ⟨_, _, _, hr⟩ | ⟨_, hr⟩
    · rcases hr with ⟨_, hr⟩ | ⟨_, hr⟩
      · rcases hr with ⟨_, hr⟩ | ⟨_, hr⟩
        · exact hr.2.es
        · exact hr.2.es
      · exact hr.2.es
    · exact hr.2.es
  refine ⟨rfl, hes.mi hmi, hup, ?_⟩
  simp only [hes.rd, hes.od, hes.cdoor, hes.nd]
  rcases hr with ⟨j, hj, ej, hr⟩ | ⟨ej, hr⟩
  · refine Or.inl ⟨j, hj, ej, ?_⟩
    rcases hr with ⟨ho, hr⟩ | ⟨ho, hr⟩
    · refine Or.inl ⟨ho, ?_⟩
      rcases hr with ⟨hc, hk, hlc⟩ | ⟨hc, hr⟩
      · refine ⟨fun _ => ?_, fun w => absurd w hc⟩
        exact fun J3 N3 O3 sz3 hq hO hz => h _ _ _ (LC.qe hli hlc hq hO hz) (hq.2.trans hk.symm) (fun e => absurd (hk.symm.trans e) hc)
      · refine ⟨fun w => absurd hc w, fun _ => ?_⟩
        obtain ⟨⟨hk, hu⟩, hlc⟩ := hr
        subst ej
        have hJ : ∀ o, 22 ≤ o → J2 o = J o := hlc.2.1
        have hN : ∀ o, 22 ≤ o → N2 o = N o := hlc.2.2.1
        have hmg := (MI.door hmi hj ho hup hc).1
        exact h _ _ _ (LC.go hli hlc hmg (fun o ho => (by first | exact uj_low ho | exact (uj_low ho).trans (uj_low ho))) (fun o ho => by simp only [uN_door, zk_un]; repeat rw [if_neg (by omega)]) (fun _ _ => rfl) (Nat.le_refl _) (gh_of (jg_door hJ) (fun o ho => by simp only [uN_door, zk_un, hN 30 (by decide), hN 31 (by decide), hN 32 (by decide), hN 33 (by decide), hN 34 (by decide), hN 35 (by decide), hN o ho]))) ((jt_door (J2 := J2)).trans hk.symm) (fun _ => hu)
    · refine Or.inr ⟨ho, ?_⟩
      obtain ⟨hk, hlc⟩ := hr
      exact fun J3 N3 O3 sz3 hq hO hz => h _ _ _ (LC.qe hli hlc hq hO hz) (hq.2.trans hk.symm) (fun e => absurd (hk.symm.trans e) (by decide))
  · refine Or.inr ⟨ej, ?_⟩
    obtain ⟨hk, hlc⟩ := hr
    exact fun J3 N3 O3 sz3 hq hO hz => h _ _ _ (LC.qe hli hlc hq hO hz) (hq.2.trans hk.symm) (fun e => absurd (hk.symm.trans e) (by decide))
theorem ref_addWindow {E : zk_E} {σ : zk_S} {sz : Nat} {r x y up w : Int32} (hup : up = 0 ∨ up = 1) (hli : LI E sz σ) {k : Int32} {σ2 : zk_S} {sz2 : Nat} (hr : R_addWindow E σ sz r x y up w k σ2 sz2) {P : zk_P zk_S} {PX : zk_X zk_S} (h : ∀ b σ3 sz3, LI E sz3 σ3 → σ3.1 22 0 = k → (k = 0 → σ3.2.2.2.2 0 = b.toInt64) → P (some (.int b)) σ3 sz3) : sp_X11_addWindow E [.ref (zk_ad E 22), .int r, .int x, .int y, .int up, .int w] σ2 sz2 P PX := by
  rw [spe_X11_addWindow]
  unfold R_addWindow at hr
  obtain ⟨J, N, Q, O, U⟩ := σ
  obtain ⟨J2, N2, Q2, O2, U2⟩ := σ2
  have hmi : MI J N := hli.2.1
  have hms := hmi.1
  try dsimp only at hr ⊢
  have hes : ES J J2 N N2 := by
    rcases hr with ⟨_, _, _, hr⟩ | ⟨_, hr⟩
    · rcases hr with ⟨_, hr⟩ | ⟨_, hr⟩
      · exact hr.2.es
      · exact hr.2.es
    · exact hr.2.es
  refine ⟨rfl, hes.mi hmi, hup, ?_⟩
  simp only [hes.rd, hes.cwin, hes.lwin]
  rcases hr with ⟨j, hj, ej, hr⟩ | ⟨ej, hr⟩
  · refine Or.inl ⟨j, hj, ej, ?_⟩
    rcases hr with ⟨hc, hk, hlc⟩ | ⟨hc, hr⟩
    · refine ⟨fun _ => ?_, fun w => absurd w hc⟩
      exact fun J3 N3 O3 sz3 hq hO hz => h _ _ _ (LC.qe hli hlc hq hO hz) (hq.2.trans hk.symm) (fun e => absurd (hk.symm.trans e) hc)
    · refine ⟨fun w => absurd hc w, fun _ => ?_⟩
      obtain ⟨⟨hk, hu⟩, hlc⟩ := hr
      subst ej
      have hJ : ∀ o, 22 ≤ o → J2 o = J o := hlc.2.1
      have hN : ∀ o, 22 ≤ o → N2 o = N o := hlc.2.2.1
      have hmg := (MI.win hmi hj hup hc).1
      exact h _ _ _ (LC.go hli hlc hmg (fun o ho => (by first | exact uj_low ho | exact (uj_low ho).trans (uj_low ho))) (fun o ho => by simp only [uN_win, zk_un]; repeat rw [if_neg (by omega)]) (fun _ _ => rfl) (Nat.le_refl _) (gh_of (jg_win hJ) (fun o ho => by simp only [uN_win, zk_un, hes.nw, hN 37 (by decide), hN 38 (by decide), hN 39 (by decide), hN 40 (by decide), hN 41 (by decide), hN o ho]))) ((jt_win (J2 := J2)).trans hk.symm) (fun _ => hu)
  · refine Or.inr ⟨ej, ?_⟩
    obtain ⟨hk, hlc⟩ := hr
    exact fun J3 N3 O3 sz3 hq hO hz => h _ _ _ (LC.qe hli hlc hq hO hz) (hq.2.trans hk.symm) (fun e => absurd (hk.symm.trans e) (by decide))
theorem ref_addStairs {E : zk_E} {σ : zk_S} {sz : Nat} {lo hi x y : Int32} (hli : LI E sz σ) {k : Int32} {σ2 : zk_S} {sz2 : Nat} (hr : R_addStairs E σ sz lo hi x y k σ2 sz2) {P : zk_P zk_S} {PX : zk_X zk_S} (h : ∀ b σ3 sz3, LI E sz3 σ3 → σ3.1 22 0 = k → (k = 0 → σ3.2.2.2.2 0 = b.toInt64) → P (some (.int b)) σ3 sz3) : sp_X11_addStairs E [.ref (zk_ad E 22), .int lo, .int hi, .int x, .int y] σ2 sz2 P PX := by
  rw [spe_X11_addStairs]
  unfold R_addStairs at hr
  obtain ⟨J, N, Q, O, U⟩ := σ
  obtain ⟨J2, N2, Q2, O2, U2⟩ := σ2
  have hmi : MI J N := hli.2.1
  have hms := hmi.1
  try dsimp only at hr ⊢
  have hes : ES J J2 N N2 := by
    rcases hr with ⟨_, _, _, hr⟩ | ⟨_, hr⟩
    · rcases hr with ⟨_, _, _, hr⟩ | ⟨_, hr⟩
      · rcases hr with ⟨_, hr⟩ | ⟨_, hr⟩
        · exact hr.2.es
        · exact hr.2.es
      · exact hr.2.es
    · exact hr.2.es
  refine ⟨rfl, hes.mi hmi, ?_⟩
  simp only [hes.rd, hes.cst, hes.vst hms]
  rcases hr with ⟨j, hj, ej, hr⟩ | ⟨ej, hr⟩
  · refine Or.inl ⟨j, hj, ej, ?_⟩
    rcases hr with ⟨q, hq, eq, hr⟩ | ⟨eq, hr⟩
    · refine Or.inl ⟨q, hq, eq, ?_⟩
      rcases hr with ⟨hc, hk, hlc⟩ | ⟨hc, hr⟩
      · refine ⟨fun _ => ?_, fun w => absurd w hc⟩
        exact fun J3 N3 O3 sz3 hq hO hz => h _ _ _ (LC.qe hli hlc hq hO hz) (hq.2.trans hk.symm) (fun e => absurd (hk.symm.trans e) hc)
      · refine ⟨fun w => absurd hc w, fun _ => ?_⟩
        obtain ⟨⟨hk, hu⟩, hlc⟩ := hr
        subst ej
        subst eq
        have hJ : ∀ o, 22 ≤ o → J2 o = J o := hlc.2.1
        have hN : ∀ o, 22 ≤ o → N2 o = N o := hlc.2.2.1
        have hmg := st_mi hmi hj hq hc
        exact h _ _ _ (LC.go hli hlc hmg (fun o ho => (by first | exact uj_low ho | exact (uj_low ho).trans (uj_low ho))) (fun o ho => by simp only [uN_st, zk_un]; repeat rw [if_neg (by omega)]) (fun _ _ => rfl) (Nat.le_refl _) (gh_of (jg_st hJ) (fun o ho => by simp only [uN_st, zk_un, hes.ns, hN 42 (by decide), hN 43 (by decide), hN 44 (by decide), hN 45 (by decide), hN o ho]))) ((jt_st (J2 := J2)).trans hk.symm) (fun _ => hu)
    · refine Or.inr ⟨eq, ?_⟩
      obtain ⟨hk, hlc⟩ := hr
      exact fun J3 N3 O3 sz3 hq hO hz => h _ _ _ (LC.qe hli hlc hq hO hz) (hq.2.trans hk.symm) (fun e => absurd (hk.symm.trans e) (by decide))
  · refine Or.inr ⟨ej, ?_⟩
    obtain ⟨hk, hlc⟩ := hr
    exact fun J3 N3 O3 sz3 hq hO hz => h _ _ _ (LC.qe hli hlc hq hO hz) (hq.2.trans hk.symm) (fun e => absurd (hk.symm.trans e) (by decide))
theorem ref_shut {E : zk_E} {σ : zk_S} {sz : Nat} {d x : Int32} (hx : x = 0 ∨ x = 1) (hli : LI E sz σ) {k : Int32} {σ2 : zk_S} {sz2 : Nat} (hr : R_shut E σ sz d x k σ2 sz2) {P : zk_P zk_S} {PX : zk_X zk_S} (h : ∀ b σ3 sz3, LI E sz3 σ3 → σ3.1 22 0 = k → (k = 0 → σ3.2.2.2.2 0 = b.toInt64) → (b = 0 ∨ b = 1) → P (some (.int b)) σ3 sz3) : sp_X11_shut E [.ref (zk_ad E 22), .int d, .int x] σ2 sz2 P PX := by
  rw [spe_X11_shut]
  unfold R_shut at hr
  obtain ⟨J, N, Q, O, U⟩ := σ
  obtain ⟨J2, N2, Q2, O2, U2⟩ := σ2
  have hmi : MI J N := hli.2.1
  have hms := hmi.1
  try dsimp only at hr ⊢
  have hes : ES J J2 N N2 := by
    rcases hr with ⟨_, _, _, hr⟩ | ⟨_, hr⟩
    · exact hr.2.es
    · exact hr.2.es
  refine ⟨rfl, hes.mi hmi, hx, ?_⟩
  simp only [hes.drd]
  rcases hr with ⟨j, hj, ej, hr⟩ | ⟨ej, hr⟩
  · refine Or.inl ⟨j, hj, ej, ?_⟩
    obtain ⟨⟨hk, hu⟩, hlc⟩ := hr
    have hJ : ∀ o, 22 ≤ o → J2 o = J o := hlc.2.1
    have hN : ∀ o, 22 ≤ o → N2 o = N o := hlc.2.2.1
    have hmg := MI.shut hmi hj.1 hx
    exact h _ _ _ (LC.go hli hlc hmg (fun o ho => uj_low ho) (fun o ho => by simp only [zk_un]; repeat rw [if_neg (by omega)]) (fun _ _ => rfl) (Nat.le_refl _) (gh_of (jg_0 hJ) (fun o ho => by simp only [zk_un, hN 36 (by decide), hN o ho]))) ((jt_0 (J2 := J2)).trans hk.symm) (fun _ => (by rw [hN 36 (by decide)]; exact hu)) (by rw [hN 36 (by decide)]; exact (hmi.2.2.1 j hj.1).2.2.2.2.2)
  · refine Or.inr ⟨ej, ?_⟩
    obtain ⟨hk, hlc⟩ := hr
    exact fun J3 N3 O3 sz3 hq hO hz => h _ _ _ (LC.qe hli hlc hq hO hz) (hq.2.trans hk.symm) (fun e => absurd (hk.symm.trans e) (by decide)) (Or.inl rfl)
theorem ref_removeDoor {E : zk_E} {σ : zk_S} {sz : Nat} {r : Int32} (hli : LI E sz σ) {k : Int32} {σ2 : zk_S} {sz2 : Nat} (hr : R_removeDoor E σ sz r k σ2 sz2) {P : zk_P zk_S} {PX : zk_X zk_S} (h : ∀ b σ3 sz3, LI E sz3 σ3 → σ3.1 22 0 = k → (k = 0 → σ3.2.2.2.2 0 = b.toInt64) → P (some (.int b)) σ3 sz3) : sp_X11_removeDoor E [.ref (zk_ad E 22), .int r] σ2 sz2 P PX := by
  rw [spe_X11_removeDoor]
  unfold R_removeDoor at hr
  obtain ⟨J, N, Q, O, U⟩ := σ
  obtain ⟨J2, N2, Q2, O2, U2⟩ := σ2
  have hmi : MI J N := hli.2.1
  have hms := hmi.1
  try dsimp only at hr ⊢
  have hes : ES J J2 N N2 := by
    rcases hr with ⟨_, _, _, hr⟩ | ⟨_, hr⟩
    · exact hr.2.es
    · exact hr.2.es
  refine ⟨rfl, hes.mi hmi, ?_⟩
  simp only [hes.drd, hes.drmD]
  rcases hr with ⟨j, hj, ej, hr⟩ | ⟨ej, hr⟩
  · refine Or.inl ⟨j, hj, ej, ?_⟩
    obtain ⟨⟨hk, hu⟩, hlc⟩ := hr
    have hJ : ∀ o, 22 ≤ o → J2 o = J o := hlc.2.1
    have hN : ∀ o, 22 ≤ o → N2 o = N o := hlc.2.2.1
    have hmg := MI.rmD (d := j) hmi
    exact h _ _ _ (LC.go hli hlc hmg (fun o ho => (by first | exact uj_low ho | exact (uj_low ho).trans (uj_low ho))) (fun o ho => by simp only [uN_rmD, zk_un]; repeat rw [if_neg (by omega)]) (fun _ _ => rfl) (Nat.le_refl _) (gh_of (jg_0 hJ) (fun o ho => by simp only [uN_rmD, zk_un, hN 30 (by decide), hN o ho]))) ((jt_0 (J2 := J2)).trans hk.symm) (fun _ => hu)
  · refine Or.inr ⟨ej, ?_⟩
    obtain ⟨hk, hlc⟩ := hr
    exact fun J3 N3 O3 sz3 hq hO hz => h _ _ _ (LC.qe hli hlc hq hO hz) (hq.2.trans hk.symm) (fun e => absurd (hk.symm.trans e) (by decide))
theorem ref_setLimit {E : zk_E} {σ : zk_S} {sz : Nat} {r l : Int32} (hli : LI E sz σ) {k : Int32} {σ2 : zk_S} {sz2 : Nat} (hr : R_setLimit E σ sz r l k σ2 sz2) {P : zk_P zk_S} {PX : zk_X zk_S} (h : ∀ b σ3 sz3, LI E sz3 σ3 → σ3.1 22 0 = k → (k = 0 → σ3.2.2.2.2 0 = b.toInt64) → P (some (.int b)) σ3 sz3) : sp_X11_setLimit E [.ref (zk_ad E 22), .int r, .int l] σ2 sz2 P PX := by
  rw [spe_X11_setLimit]
  unfold R_setLimit at hr
  obtain ⟨J, N, Q, O, U⟩ := σ
  obtain ⟨J2, N2, Q2, O2, U2⟩ := σ2
  have hmi : MI J N := hli.2.1
  have hms := hmi.1
  try dsimp only at hr ⊢
  have hes : ES J J2 N N2 := by
    rcases hr with ⟨_, hr⟩ | ⟨_, hr⟩
    · exact hr.2.es
    · exact hr.2.es
  refine ⟨rfl, ?_⟩
  rcases hr with ⟨hc, hk, hlc⟩ | ⟨hc, hr⟩
  · refine ⟨fun _ => ?_, fun w => absurd w hc⟩
    exact fun J3 N3 O3 sz3 hq hO hz => h _ _ _ (LC.qe hli hlc hq hO hz) (hq.2.trans hk.symm) (fun e => absurd (hk.symm.trans e) hc)
  · refine ⟨fun w => absurd hc w, fun _ => ?_⟩
    obtain ⟨⟨hk, hu⟩, hlc⟩ := hr
    have hJ : ∀ o, 22 ≤ o → J2 o = J o := hlc.2.1
    have hN : ∀ o, 22 ≤ o → N2 o = N o := hlc.2.2.1
    have hmg := lim_mi hmi hc
    exact h _ _ _ (LC.go hli hlc hmg (fun o ho => (by first | exact uj_low ho | exact (uj_low ho).trans (uj_low ho))) (fun o ho => by simp only [uN_lim, zk_un]; repeat rw [if_neg (by omega)]) (fun _ _ => rfl) (Nat.le_refl _) (gh_of (jg_0 hJ) (fun o ho => by simp only [uN_lim, zk_un, hN 46 (by decide), hN o ho]))) ((jt_0 (J2 := J2)).trans hk.symm) (fun _ => (by rw [hN 46 (by decide)]; exact hu))
theorem ref_roomAt {E : zk_E} {σ : zk_S} {sz : Nat} {fl x y : Int32} (hli : LI E sz σ) {k : Int32} {σ2 : zk_S} {sz2 : Nat} (hr : R_roomAt E σ sz fl x y k σ2 sz2) {P : zk_P zk_S} {PX : zk_X zk_S} (h : ∀ b σ3 sz3, LI E sz3 σ3 → σ3.1 22 0 = k → (k = 0 → σ3.2.2.2.2 0 = b.toInt64) → P (some (.int b)) σ3 sz3) : sp_X11_roomAt E [.ref (zk_ad E 22), .int fl, .int x, .int y] σ2 sz2 P PX := by
  rw [spe_X11_roomAt]
  unfold R_roomAt at hr
  obtain ⟨J, N, Q, O, U⟩ := σ
  obtain ⟨J2, N2, Q2, O2, U2⟩ := σ2
  have hmi : MI J N := hli.2.1
  have hms := hmi.1
  try dsimp only at hr ⊢
  have hes : ES J J2 N N2 := by
    rcases hr with ⟨_, hr⟩ | ⟨_, hr⟩
    · exact hr.2.es
    · exact hr.2.es
  refine ⟨rfl, hes.mi hmi, ?_⟩
  simp only [hes.at]
  rcases hr with ⟨hc, hr⟩ | ⟨hc, hr⟩
  · refine ⟨fun _ => ?_, fun w => absurd (hc.symm.trans w) (by decide)⟩
    obtain ⟨hk, hlc⟩ := hr
    exact fun J3 N3 O3 sz3 hq hO hz => h _ _ _ (LC.qe hli hlc hq hO hz) (hq.2.trans hk.symm) (fun e => absurd (hk.symm.trans e) (by decide))
  · refine ⟨fun w => absurd (hc.symm.trans w) (by decide), fun _ => ?_⟩
    obtain ⟨⟨hk, hu⟩, hlc⟩ := hr
    exact fun J3 N3 O3 sz3 hq hO hz => h _ _ _ (LC.qe hli hlc hq hO hz) (hq.2.trans hk.symm) (fun _ => hu)
theorem ref_areJoined {E : zk_E} {σ : zk_S} {sz : Nat} {x y : Int32} (hli : LI E sz σ) {k : Int32} {σ2 : zk_S} {sz2 : Nat} (hr : R_areJoined E σ sz x y k σ2 sz2) {P : zk_P zk_S} {PX : zk_X zk_S} (h : ∀ b σ3 sz3, LI E sz3 σ3 → σ3.1 22 0 = k → (k = 0 → σ3.2.2.2.2 0 = b.toInt64) → (b = 0 ∨ b = 1) → P (some (.int b)) σ3 sz3) : sp_X11_areJoined E [.ref (zk_ad E 22), .int x, .int y] σ2 sz2 P PX := by
  rw [spe_X11_areJoined]
  unfold R_areJoined at hr
  obtain ⟨J, N, Q, O, U⟩ := σ
  obtain ⟨J2, N2, Q2, O2, U2⟩ := σ2
  have hmi : MI J N := hli.2.1
  have hms := hmi.1
  try dsimp only at hr ⊢
  have hes : ES J J2 N N2 := by
    rcases hr with ⟨_, _, _, hr⟩ | ⟨_, hr⟩
    · rcases hr with ⟨_, _, _, hr⟩ | ⟨_, hr⟩
      · exact hr.2.es
      · exact hr.2.es
    · exact hr.2.es
  refine ⟨rfl, hes.mi hmi, ?_⟩
  simp only [hes.rd, hes.jn]
  rcases hr with ⟨j, hj, ej, hr⟩ | ⟨ej, hr⟩
  · refine Or.inl ⟨j, hj, ej, ?_⟩
    rcases hr with ⟨q, hq, eq, hr⟩ | ⟨eq, hr⟩
    · refine Or.inl ⟨q, hq, eq, ?_⟩
      obtain ⟨⟨hk, hu⟩, hlc⟩ := hr
      exact fun J3 N3 O3 sz3 hq hO hz => h _ _ _ (LC.qe hli hlc hq hO hz) (hq.2.trans hk.symm) (fun _ => hu) (b_01 _)
    · refine Or.inr ⟨eq, ?_⟩
      obtain ⟨hk, hlc⟩ := hr
      exact fun J3 N3 O3 sz3 hq hO hz => h _ _ _ (LC.qe hli hlc hq hO hz) (hq.2.trans hk.symm) (fun e => absurd (hk.symm.trans e) (by decide)) (Or.inl rfl)
  · refine Or.inr ⟨ej, ?_⟩
    obtain ⟨hk, hlc⟩ := hr
    exact fun J3 N3 O3 sz3 hq hO hz => h _ _ _ (LC.qe hli hlc hq hO hz) (hq.2.trans hk.symm) (fun e => absurd (hk.symm.trans e) (by decide)) (Or.inl rfl)
theorem ref_isLost {E : zk_E} {σ : zk_S} {sz : Nat} {r : Int32} (hli : LI E sz σ) {k : Int32} {σ2 : zk_S} {sz2 : Nat} (hr : R_isLost E σ sz r k σ2 sz2) {P : zk_P zk_S} {PX : zk_X zk_S} (h : ∀ b σ3 sz3, LI E sz3 σ3 → σ3.1 22 0 = k → (k = 0 → σ3.2.2.2.2 0 = b.toInt64) → (b = 0 ∨ b = 1) → P (some (.int b)) σ3 sz3) : sp_X11_isLost E [.ref (zk_ad E 22), .int r] σ2 sz2 P PX := by
  rw [spe_X11_isLost]
  unfold R_isLost at hr
  obtain ⟨J, N, Q, O, U⟩ := σ
  obtain ⟨J2, N2, Q2, O2, U2⟩ := σ2
  have hmi : MI J N := hli.2.1
  have hms := hmi.1
  try dsimp only at hr ⊢
  have hes : ES J J2 N N2 := by
    rcases hr with ⟨_, _, _, hr⟩ | ⟨_, hr⟩
    · exact hr.2.es
    · exact hr.2.es
  refine ⟨rfl, hes.mi hmi, ?_⟩
  simp only [hes.rd, hes.a1]
  rcases hr with ⟨j, hj, ej, hr⟩ | ⟨ej, hr⟩
  · refine Or.inl ⟨j, hj, ej, ?_⟩
    obtain ⟨⟨hk, hu⟩, hlc⟩ := hr
    exact fun J3 N3 hq => h _ _ _ (LC.qe hli hlc hq (fun _ _ => rfl) (Nat.le_refl _)) (hq.2.trans hk.symm) (fun _ => hu) (b_01 _)
  · refine Or.inr ⟨ej, ?_⟩
    obtain ⟨hk, hlc⟩ := hr
    exact fun J3 N3 hq => h _ _ _ (LC.qe hli hlc hq (fun _ _ => rfl) (Nat.le_refl _)) (hq.2.trans hk.symm) (fun e => absurd (hk.symm.trans e) (by decide)) (Or.inl rfl)
theorem ref_farWay {E : zk_E} {σ : zk_S} {sz : Nat} {r : Int32} (hli : LI E sz σ) {k : Int32} {σ2 : zk_S} {sz2 : Nat} (hr : R_farWay E σ sz r k σ2 sz2) {P : zk_P zk_S} {PX : zk_X zk_S} (h : ∀ b σ3 sz3, LI E sz3 σ3 → σ3.1 22 0 = k → (k = 0 → σ3.2.2.2.2 0 = b.toInt64) → P (some (.int b)) σ3 sz3) : sp_X11_farWay E [.ref (zk_ad E 22), .int r] σ2 sz2 P PX := by
  rw [spe_X11_farWay]
  unfold R_farWay at hr
  obtain ⟨J, N, Q, O, U⟩ := σ
  obtain ⟨J2, N2, Q2, O2, U2⟩ := σ2
  have hmi : MI J N := hli.2.1
  have hms := hmi.1
  try dsimp only at hr ⊢
  have hes : ES J J2 N N2 := by
    rcases hr with ⟨_, _, _, hr⟩ | ⟨_, hr⟩
    · exact hr.2.es
    · exact hr.2.es
  refine ⟨rfl, hes.mi hmi, ?_⟩
  simp only [hes.rd, hes.a2]
  rcases hr with ⟨j, hj, ej, hr⟩ | ⟨ej, hr⟩
  · refine Or.inl ⟨j, hj, ej, ?_⟩
    obtain ⟨⟨hk, hu⟩, hlc⟩ := hr
    exact fun J3 N3 hq => h _ _ _ (LC.qe hli hlc hq (fun _ _ => rfl) (Nat.le_refl _)) (hq.2.trans hk.symm) (fun _ => hu)
  · refine Or.inr ⟨ej, ?_⟩
    obtain ⟨hk, hlc⟩ := hr
    exact fun J3 N3 hq => h _ _ _ (LC.qe hli hlc hq (fun _ _ => rfl) (Nat.le_refl _)) (hq.2.trans hk.symm) (fun e => absurd (hk.symm.trans e) (by decide))
theorem ref_leaving {E : zk_E} {σ : zk_S} {sz : Nat} {r : Int32} (hli : LI E sz σ) {k : Int32} {σ2 : zk_S} {sz2 : Nat} (hr : R_leaving E σ sz r k σ2 sz2) {P : zk_P zk_S} {PX : zk_X zk_S} (h : ∀ b σ3 sz3, LI E sz3 σ3 → σ3.1 22 0 = k → (k = 0 → σ3.2.2.2.2 0 = b.toInt64) → P (some (.int b)) σ3 sz3) : sp_X11_leaving E [.ref (zk_ad E 22), .int r] σ2 sz2 P PX := by
  rw [spe_X11_leaving]
  unfold R_leaving at hr
  obtain ⟨J, N, Q, O, U⟩ := σ
  obtain ⟨J2, N2, Q2, O2, U2⟩ := σ2
  have hmi : MI J N := hli.2.1
  have hms := hmi.1
  try dsimp only at hr ⊢
  have hes : ES J J2 N N2 := by
    rcases hr with ⟨_, _, _, hr⟩ | ⟨_, hr⟩
    · exact hr.2.es
    · exact hr.2.es
  refine ⟨rfl, hes.mi hmi, ?_⟩
  simp only [hes.rd, hes.a3]
  rcases hr with ⟨j, hj, ej, hr⟩ | ⟨ej, hr⟩
  · refine Or.inl ⟨j, hj, ej, ?_⟩
    obtain ⟨⟨hk, hu⟩, hlc⟩ := hr
    exact fun J3 N3 hq => h _ _ _ (LC.qe hli hlc hq (fun _ _ => rfl) (Nat.le_refl _)) (hq.2.trans hk.symm) (fun _ => hu)
  · refine Or.inr ⟨ej, ?_⟩
    obtain ⟨hk, hlc⟩ := hr
    exact fun J3 N3 hq => h _ _ _ (LC.qe hli hlc hq (fun _ _ => rfl) (Nat.le_refl _)) (hq.2.trans hk.symm) (fun e => absurd (hk.symm.trans e) (by decide))
theorem ref_middleWay {E : zk_E} {σ : zk_S} {sz : Nat} {r : Int32} (hli : LI E sz σ) {k : Int32} {σ2 : zk_S} {sz2 : Nat} (hr : R_middleWay E σ sz r k σ2 sz2) {P : zk_P zk_S} {PX : zk_X zk_S} (h : ∀ b σ3 sz3, LI E sz3 σ3 → σ3.1 22 0 = k → (k = 0 → σ3.2.2.2.2 0 = b.toInt64) → P (some (.int b)) σ3 sz3) : sp_X11_middleWay E [.ref (zk_ad E 22), .int r] σ2 sz2 P PX := by
  rw [spe_X11_middleWay]
  unfold R_middleWay at hr
  obtain ⟨J, N, Q, O, U⟩ := σ
  obtain ⟨J2, N2, Q2, O2, U2⟩ := σ2
  have hmi : MI J N := hli.2.1
  have hms := hmi.1
  try dsimp only at hr ⊢
  have hes : ES J J2 N N2 := by
    rcases hr with ⟨_, _, _, hr⟩ | ⟨_, hr⟩
    · exact hr.2.es
    · exact hr.2.es
  refine ⟨rfl, hes.mi hmi, ?_⟩
  simp only [hes.rd, hes.a4]
  rcases hr with ⟨j, hj, ej, hr⟩ | ⟨ej, hr⟩
  · refine Or.inl ⟨j, hj, ej, ?_⟩
    obtain ⟨⟨hk, hu⟩, hlc⟩ := hr
    exact fun J3 N3 hq => h _ _ _ (LC.qe hli hlc hq (fun _ _ => rfl) (Nat.le_refl _)) (hq.2.trans hk.symm) (fun _ => hu)
  · refine Or.inr ⟨ej, ?_⟩
    obtain ⟨hk, hlc⟩ := hr
    exact fun J3 N3 hq => h _ _ _ (LC.qe hli hlc hq (fun _ _ => rfl) (Nat.le_refl _)) (hq.2.trans hk.symm) (fun e => absurd (hk.symm.trans e) (by decide))
theorem ref_depth {E : zk_E} {σ : zk_S} {sz : Nat} {r : Int32} (hli : LI E sz σ) {k : Int32} {σ2 : zk_S} {sz2 : Nat} (hr : R_depth E σ sz r k σ2 sz2) {P : zk_P zk_S} {PX : zk_X zk_S} (h : ∀ b σ3 sz3, LI E sz3 σ3 → σ3.1 22 0 = k → (k = 0 → σ3.2.2.2.2 0 = b.toInt64) → P (some (.int b)) σ3 sz3) : sp_X11_depth E [.ref (zk_ad E 22), .int r] σ2 sz2 P PX := by
  rw [spe_X11_depth]
  unfold R_depth at hr
  obtain ⟨J, N, Q, O, U⟩ := σ
  obtain ⟨J2, N2, Q2, O2, U2⟩ := σ2
  have hmi : MI J N := hli.2.1
  have hms := hmi.1
  try dsimp only at hr ⊢
  have hes : ES J J2 N N2 := by
    rcases hr with ⟨_, _, _, hr⟩ | ⟨_, hr⟩
    · exact hr.2.es
    · exact hr.2.es
  refine ⟨rfl, hes.mi hmi, ?_⟩
  simp only [hes.rd, hes.deep]
  rcases hr with ⟨j, hj, ej, hr⟩ | ⟨ej, hr⟩
  · refine Or.inl ⟨j, hj, ej, ?_⟩
    obtain ⟨⟨hk, hu⟩, hlc⟩ := hr
    exact fun J3 N3 hq => h _ _ _ (LC.qe hli hlc hq (fun _ _ => rfl) (Nat.le_refl _)) (hq.2.trans hk.symm) (fun _ => hu)
  · refine Or.inr ⟨ej, ?_⟩
    obtain ⟨hk, hlc⟩ := hr
    exact fun J3 N3 hq => h _ _ _ (LC.qe hli hlc hq (fun _ _ => rfl) (Nat.le_refl _)) (hq.2.trans hk.symm) (fun e => absurd (hk.symm.trans e) (by decide))
theorem ref_way {E : zk_E} {σ : zk_S} {sz : Nat} {r q : Int32} (hq : q = 0 ∨ q = 1) (hli : LI E sz σ) {k : Int32} {σ2 : zk_S} {sz2 : Nat} (hr : R_way E σ sz r q k σ2 sz2) {P : zk_P zk_S} {PX : zk_X zk_S} (h : ∀ b σ3 sz3, LI E sz3 σ3 → σ3.1 22 0 = k → (k = 0 → σ3.2.2.2.2 0 = b.toInt64) → P (some (.int b)) σ3 sz3) : sp_X11_way E [.ref (zk_ad E 22), .int r, .int q] σ2 sz2 P PX := by
  rw [spe_X11_way]
  unfold R_way at hr
  obtain ⟨J, N, Q, O, U⟩ := σ
  obtain ⟨J2, N2, Q2, O2, U2⟩ := σ2
  have hmi : MI J N := hli.2.1
  have hms := hmi.1
  try dsimp only at hr ⊢
  have hes : ES J J2 N N2 := by
    rcases hr with ⟨_, _, _, hr⟩ | ⟨_, hr⟩
    · exact hr.2.es
    · exact hr.2.es
  refine ⟨rfl, hes.mi hmi, hq, ?_⟩
  simp only [hes.drd, hes.a5]
  rcases hr with ⟨j, hj, ej, hr⟩ | ⟨ej, hr⟩
  · refine Or.inl ⟨j, hj, ej, ?_⟩
    obtain ⟨⟨hk, hu⟩, hlc⟩ := hr
    exact fun J3 N3 hq => h _ _ _ (LC.qe hli hlc hq (fun _ _ => rfl) (Nat.le_refl _)) (hq.2.trans hk.symm) (fun _ => hu)
  · refine Or.inr ⟨ej, ?_⟩
    obtain ⟨hk, hlc⟩ := hr
    exact fun J3 N3 hq => h _ _ _ (LC.qe hli hlc hq (fun _ _ => rfl) (Nat.le_refl _)) (hq.2.trans hk.symm) (fun e => absurd (hk.symm.trans e) (by decide))
theorem ref_load {E : zk_E} {σ : zk_S} {sz : Nat} {r : Int32} (hli : LI E sz σ) {k : Int32} {σ2 : zk_S} {sz2 : Nat} (hr : R_load E σ sz r k σ2 sz2) {P : zk_P zk_S} {PX : zk_X zk_S} (h : ∀ b σ3 sz3, LI E sz3 σ3 → σ3.1 22 0 = k → (k = 0 → σ3.2.2.2.2 0 = b.toInt64) → P (some (.int b)) σ3 sz3) : sp_X11_load E [.ref (zk_ad E 22), .int r] σ2 sz2 P PX := by
  rw [spe_X11_load]
  unfold R_load at hr
  obtain ⟨J, N, Q, O, U⟩ := σ
  obtain ⟨J2, N2, Q2, O2, U2⟩ := σ2
  have hmi : MI J N := hli.2.1
  have hms := hmi.1
  try dsimp only at hr ⊢
  have hes : ES J J2 N N2 := by
    rcases hr with ⟨_, _, _, hr⟩ | ⟨_, hr⟩
    · exact hr.2.es
    · exact hr.2.es
  refine ⟨rfl, hes.mi hmi, ?_⟩
  simp only [hes.drd, hes.a6]
  rcases hr with ⟨j, hj, ej, hr⟩ | ⟨ej, hr⟩
  · refine Or.inl ⟨j, hj, ej, ?_⟩
    obtain ⟨⟨hk, hu⟩, hlc⟩ := hr
    exact fun J3 N3 hq => h _ _ _ (LC.qe hli hlc hq (fun _ _ => rfl) (Nat.le_refl _)) (hq.2.trans hk.symm) (fun _ => hu)
  · refine Or.inr ⟨ej, ?_⟩
    obtain ⟨hk, hlc⟩ := hr
    exact fun J3 N3 hq => h _ _ _ (LC.qe hli hlc hq (fun _ _ => rfl) (Nat.le_refl _)) (hq.2.trans hk.symm) (fun e => absurd (hk.symm.trans e) (by decide))
theorem ref_stairsLoad {E : zk_E} {σ : zk_S} {sz : Nat} {r : Int32} (hli : LI E sz σ) {k : Int32} {σ2 : zk_S} {sz2 : Nat} (hr : R_stairsLoad E σ sz r k σ2 sz2) {P : zk_P zk_S} {PX : zk_X zk_S} (h : ∀ b σ3 sz3, LI E sz3 σ3 → σ3.1 22 0 = k → (k = 0 → σ3.2.2.2.2 0 = b.toInt64) → P (some (.int b)) σ3 sz3) : sp_X11_stairsLoad E [.ref (zk_ad E 22), .int r] σ2 sz2 P PX := by
  rw [spe_X11_stairsLoad]
  unfold R_stairsLoad at hr
  obtain ⟨J, N, Q, O, U⟩ := σ
  obtain ⟨J2, N2, Q2, O2, U2⟩ := σ2
  have hmi : MI J N := hli.2.1
  have hms := hmi.1
  try dsimp only at hr ⊢
  have hes : ES J J2 N N2 := by
    rcases hr with ⟨_, _, _, hr⟩ | ⟨_, hr⟩
    · exact hr.2.es
    · exact hr.2.es
  refine ⟨rfl, hes.mi hmi, ?_⟩
  simp only [hes.trd, hes.a6]
  rcases hr with ⟨j, hj, ej, hr⟩ | ⟨ej, hr⟩
  · refine Or.inl ⟨j, hj, ej, ?_⟩
    obtain ⟨⟨hk, hu⟩, hlc⟩ := hr
    exact fun J3 N3 hq => h _ _ _ (LC.qe hli hlc hq (fun _ _ => rfl) (Nat.le_refl _)) (hq.2.trans hk.symm) (fun _ => hu)
  · refine Or.inr ⟨ej, ?_⟩
    obtain ⟨hk, hlc⟩ := hr
    exact fun J3 N3 hq => h _ _ _ (LC.qe hli hlc hq (fun _ _ => rfl) (Nat.le_refl _)) (hq.2.trans hk.symm) (fun e => absurd (hk.symm.trans e) (by decide))
theorem ref_left {E : zk_E} {σ : zk_S} {sz : Nat} {n : Int32} (hli : LI E sz σ) {k : Int32} {σ2 : zk_S} {sz2 : Nat} (hr : R_left E σ sz n k σ2 sz2) {P : zk_P zk_S} {PX : zk_X zk_S} (h : ∀ b σ3 sz3, LI E sz3 σ3 → σ3.1 22 0 = k → (k = 0 → σ3.2.2.2.2 0 = b.toInt64) → P (some (.int b)) σ3 sz3) : sp_X11_left E [.ref (zk_ad E 22), .int n] σ2 sz2 P PX := by
  rw [spe_X11_left]
  unfold R_left at hr
  obtain ⟨J, N, Q, O, U⟩ := σ
  obtain ⟨J2, N2, Q2, O2, U2⟩ := σ2
  have hmi : MI J N := hli.2.1
  have hms := hmi.1
  try dsimp only at hr ⊢
  have hes : ES J J2 N N2 := by
    rcases hr with ⟨_, hr⟩ | ⟨_, hr⟩
    · exact hr.2.es
    · exact hr.2.es
  have hsz : E.1 + 55 ≤ sz2 := by
    rcases hr with ⟨_, hr⟩ | ⟨_, hr⟩
    · exact Nat.le_trans hli.1 hr.2.1
    · exact Nat.le_trans hli.1 hr.2.1
  refine ⟨rfl, hes.mi hmi, hsz, ?_⟩
  simp only [hes.a9]
  rcases hr with ⟨hc, hr⟩ | ⟨hc, hr⟩
  · refine ⟨fun _ => ?_, fun w => absurd (hc.symm.trans w) (by decide)⟩
    obtain ⟨hk, hlc⟩ := hr
    exact fun J3 N3 O3 sz3 hq hO hz => h _ _ _ (LC.qe hli hlc hq hO hz) (hq.2.trans hk.symm) (fun e => absurd (hk.symm.trans e) (by decide))
  · refine ⟨fun w => absurd (hc.symm.trans w) (by decide), fun _ => ?_⟩
    obtain ⟨⟨hk, hu⟩, hlc⟩ := hr
    exact fun J3 N3 O3 sz3 hq hO hz => h _ _ _ (LC.qe hli hlc hq hO hz) (hq.2.trans hk.symm) (fun _ => hu)
theorem ref_inRoom {E : zk_E} {σ : zk_S} {sz : Nat} {r n : Int32} (hli : LI E sz σ) {k : Int32} {σ2 : zk_S} {sz2 : Nat} (hr : R_inRoom E σ sz r n k σ2 sz2) {P : zk_P zk_S} {PX : zk_X zk_S} (h : ∀ b σ3 sz3, LI E sz3 σ3 → σ3.1 22 0 = k → (k = 0 → σ3.2.2.2.2 0 = b.toInt64) → P (some (.int b)) σ3 sz3) : sp_X11_inRoom E [.ref (zk_ad E 22), .int r, .int n] σ2 sz2 P PX := by
  rw [spe_X11_inRoom]
  unfold R_inRoom at hr
  obtain ⟨J, N, Q, O, U⟩ := σ
  obtain ⟨J2, N2, Q2, O2, U2⟩ := σ2
  have hmi : MI J N := hli.2.1
  have hms := hmi.1
  try dsimp only at hr ⊢
  have hes : ES J J2 N N2 := by
    rcases hr with ⟨_, _, _, hr⟩ | ⟨_, hr⟩
    · rcases hr with ⟨_, hr⟩ | ⟨_, hr⟩
      · exact hr.2.es
      · exact hr.2.es
    · exact hr.2.es
  have hsz : E.1 + 55 ≤ sz2 := by
    rcases hr with ⟨_, _, _, hr⟩ | ⟨_, hr⟩
    · rcases hr with ⟨_, hr⟩ | ⟨_, hr⟩
      · exact Nat.le_trans hli.1 hr.2.1
      · exact Nat.le_trans hli.1 hr.2.1
    · exact Nat.le_trans hli.1 hr.2.1
  refine ⟨rfl, hes.mi hmi, hsz, ?_⟩
  simp only [hes.rd, hes.a8]
  rcases hr with ⟨j, hj, ej, hr⟩ | ⟨ej, hr⟩
  · refine Or.inl ⟨j, hj, ej, ?_⟩
    rcases hr with ⟨hc, hr⟩ | ⟨hc, hr⟩
    · refine ⟨fun _ => ?_, fun w => absurd (hc.symm.trans w) (by decide)⟩
      obtain ⟨hk, hlc⟩ := hr
      exact fun J3 N3 O3 sz3 hq hO hz => h _ _ _ (LC.qe hli hlc hq hO hz) (hq.2.trans hk.symm) (fun e => absurd (hk.symm.trans e) (by decide))
    · refine ⟨fun w => absurd (hc.symm.trans w) (by decide), fun _ => ?_⟩
      obtain ⟨⟨hk, hu⟩, hlc⟩ := hr
      exact fun J3 N3 O3 sz3 hq hO hz => h _ _ _ (LC.qe hli hlc hq hO hz) (hq.2.trans hk.symm) (fun _ => hu)
  · refine Or.inr ⟨ej, ?_⟩
    obtain ⟨hk, hlc⟩ := hr
    exact fun J3 N3 O3 sz3 hq hO hz => h _ _ _ (LC.qe hli hlc hq hO hz) (hq.2.trans hk.symm) (fun e => absurd (hk.symm.trans e) (by decide))
theorem ref_ruleOf {E : zk_E} {σ : zk_S} {sz : Nat} {i : Int32} (hli : LI E sz σ) {k : Int32} {σ2 : zk_S} {sz2 : Nat} (hr : R_ruleOf E σ sz i k σ2 sz2) {P : zk_P zk_S} {PX : zk_X zk_S} (h : ∀ b σ3 sz3, LI E sz3 σ3 → σ3.1 22 0 = k → (k = 0 → σ3.2.2.2.2 0 = b.toInt64) → P (some (.int b)) σ3 sz3) : sp_X11_ruleOf E [.ref (zk_ad E 22), .int i] σ2 sz2 P PX := by
  rw [spe_X11_ruleOf]
  unfold R_ruleOf at hr
  obtain ⟨J, N, Q, O, U⟩ := σ
  obtain ⟨J2, N2, Q2, O2, U2⟩ := σ2
  have hmi : MI J N := hli.2.1
  have hms := hmi.1
  try dsimp only at hr ⊢
  have hes : ES J J2 N N2 := by
    rcases hr with ⟨_, hr⟩ | ⟨_, hr⟩
    · exact hr.2.es
    · exact hr.2.es
  refine ⟨rfl, hes.mi hmi, ?_⟩
  simp only [hes.faults, hes.fq]
  rcases hr with ⟨hc, hr⟩ | ⟨hc, hr⟩
  · refine ⟨fun _ => ?_, fun w => absurd (hc.symm.trans w) (by decide)⟩
    obtain ⟨hk, hlc⟩ := hr
    exact fun J3 N3 O3 sz3 hq hO hz => h _ _ _ (LC.qe hli hlc hq hO hz) (hq.2.trans hk.symm) (fun e => absurd (hk.symm.trans e) (by decide))
  · refine ⟨fun w => absurd (hc.symm.trans w) (by decide), fun _ => ?_⟩
    obtain ⟨⟨hk, hu⟩, hlc⟩ := hr
    exact fun J3 N3 O3 sz3 hq hO hz => h _ _ _ (LC.qe hli hlc hq hO hz) (hq.2.trans hk.symm) (fun _ => hu)
theorem ref_whereOf {E : zk_E} {σ : zk_S} {sz : Nat} {i : Int32} (hli : LI E sz σ) {k : Int32} {σ2 : zk_S} {sz2 : Nat} (hr : R_whereOf E σ sz i k σ2 sz2) {P : zk_P zk_S} {PX : zk_X zk_S} (h : ∀ b σ3 sz3, LI E sz3 σ3 → σ3.1 22 0 = k → (k = 0 → σ3.2.2.2.2 0 = b.toInt64) → P (some (.int b)) σ3 sz3) : sp_X11_whereOf E [.ref (zk_ad E 22), .int i] σ2 sz2 P PX := by
  rw [spe_X11_whereOf]
  unfold R_whereOf at hr
  obtain ⟨J, N, Q, O, U⟩ := σ
  obtain ⟨J2, N2, Q2, O2, U2⟩ := σ2
  have hmi : MI J N := hli.2.1
  have hms := hmi.1
  try dsimp only at hr ⊢
  have hes : ES J J2 N N2 := by
    rcases hr with ⟨_, hr⟩ | ⟨_, hr⟩
    · exact hr.2.es
    · exact hr.2.es
  refine ⟨rfl, hes.mi hmi, ?_⟩
  simp only [hes.faults, hes.fq]
  rcases hr with ⟨hc, hr⟩ | ⟨hc, hr⟩
  · refine ⟨fun _ => ?_, fun w => absurd (hc.symm.trans w) (by decide)⟩
    obtain ⟨hk, hlc⟩ := hr
    exact fun J3 N3 O3 sz3 hq hO hz => h _ _ _ (LC.qe hli hlc hq hO hz) (hq.2.trans hk.symm) (fun e => absurd (hk.symm.trans e) (by decide))
  · refine ⟨fun w => absurd (hc.symm.trans w) (by decide), fun _ => ?_⟩
    obtain ⟨⟨hk, hu⟩, hlc⟩ := hr
    exact fun J3 N3 O3 sz3 hq hO hz => h _ _ _ (LC.qe hli hlc hq hO hz) (hq.2.trans hk.symm) (fun _ => hu)
theorem ref_howMuch {E : zk_E} {σ : zk_S} {sz : Nat} {i : Int32} (hli : LI E sz σ) {k : Int32} {σ2 : zk_S} {sz2 : Nat} (hr : R_howMuch E σ sz i k σ2 sz2) {P : zk_P zk_S} {PX : zk_X zk_S} (h : ∀ b σ3 sz3, LI E sz3 σ3 → σ3.1 22 0 = k → (k = 0 → σ3.2.2.2.2 0 = b.toInt64) → P (some (.int b)) σ3 sz3) : sp_X11_howMuch E [.ref (zk_ad E 22), .int i] σ2 sz2 P PX := by
  rw [spe_X11_howMuch]
  unfold R_howMuch at hr
  obtain ⟨J, N, Q, O, U⟩ := σ
  obtain ⟨J2, N2, Q2, O2, U2⟩ := σ2
  have hmi : MI J N := hli.2.1
  have hms := hmi.1
  try dsimp only at hr ⊢
  have hes : ES J J2 N N2 := by
    rcases hr with ⟨_, hr⟩ | ⟨_, hr⟩
    · exact hr.2.es
    · exact hr.2.es
  refine ⟨rfl, hes.mi hmi, ?_⟩
  simp only [hes.faults, hes.fq]
  rcases hr with ⟨hc, hr⟩ | ⟨hc, hr⟩
  · refine ⟨fun _ => ?_, fun w => absurd (hc.symm.trans w) (by decide)⟩
    obtain ⟨hk, hlc⟩ := hr
    exact fun J3 N3 O3 sz3 hq hO hz => h _ _ _ (LC.qe hli hlc hq hO hz) (hq.2.trans hk.symm) (fun e => absurd (hk.symm.trans e) (by decide))
  · refine ⟨fun w => absurd (hc.symm.trans w) (by decide), fun _ => ?_⟩
    obtain ⟨⟨hk, hu⟩, hlc⟩ := hr
    exact fun J3 N3 O3 sz3 hq hO hz => h _ _ _ (LC.qe hli hlc hq hO hz) (hq.2.trans hk.symm) (fun _ => hu)
theorem ref_broken {E : zk_E} {σ : zk_S} {sz : Nat} {r : Int32} (hli : LI E sz σ) {k : Int32} {σ2 : zk_S} {sz2 : Nat} (hr : R_broken E σ sz r k σ2 sz2) {P : zk_P zk_S} {PX : zk_X zk_S} (h : ∀ b σ3 sz3, LI E sz3 σ3 → σ3.1 22 0 = k → (k = 0 → σ3.2.2.2.2 0 = b.toInt64) → P (some (.int b)) σ3 sz3) : sp_X11_broken E [.ref (zk_ad E 22), .int r] σ2 sz2 P PX := by
  rw [spe_X11_broken]
  unfold R_broken at hr
  obtain ⟨J, N, Q, O, U⟩ := σ
  obtain ⟨J2, N2, Q2, O2, U2⟩ := σ2
  have hmi : MI J N := hli.2.1
  have hms := hmi.1
  try dsimp only at hr ⊢
  have hes : ES J J2 N N2 := by
    rcases hr with ⟨_, hr⟩ | ⟨_, hr⟩
    · exact hr.2.es
    · exact hr.2.es
  refine ⟨rfl, hes.mi hmi, ?_⟩
  simp only [hes.brk]
  rcases hr with ⟨hc, hr⟩ | ⟨hc, hr⟩
  · refine ⟨fun _ => ?_, fun w => absurd (hc.symm.trans w) (by decide)⟩
    obtain ⟨hk, hlc⟩ := hr
    exact fun J3 N3 O3 sz3 hq hO hz => h _ _ _ (LC.qe hli hlc hq hO hz) (hq.2.trans hk.symm) (fun e => absurd (hk.symm.trans e) (by decide))
  · refine ⟨fun w => absurd (hc.symm.trans w) (by decide), fun _ => ?_⟩
    obtain ⟨⟨hk, hu⟩, hlc⟩ := hr
    exact fun J3 N3 O3 sz3 hq hO hz => h _ _ _ (LC.qe hli hlc hq hO hz) (hq.2.trans hk.symm) (fun _ => hu)
theorem ref_faultsWith {E : zk_E} {σ : zk_S} {sz : Nat} {r : Int32} (hli : LI E sz σ) {k : Int32} {σ2 : zk_S} {sz2 : Nat} (hr : R_faultsWith E σ sz r k σ2 sz2) {P : zk_P zk_S} {PX : zk_X zk_S} (h : ∀ b σ3 sz3, LI E sz3 σ3 → σ3.1 22 0 = k → (k = 0 → σ3.2.2.2.2 0 = b.toInt64) → P (some (.int b)) σ3 sz3) : sp_X11_faultsWith E [.ref (zk_ad E 22), .int r] σ2 sz2 P PX := by
  rw [spe_X11_faultsWith]
  unfold R_faultsWith at hr
  obtain ⟨J, N, Q, O, U⟩ := σ
  obtain ⟨J2, N2, Q2, O2, U2⟩ := σ2
  have hmi : MI J N := hli.2.1
  have hms := hmi.1
  try dsimp only at hr ⊢
  have hes : ES J J2 N N2 := by
    rcases hr with ⟨_, _, _, hr⟩ | ⟨_, hr⟩
    · exact hr.2.es
    · exact hr.2.es
  refine ⟨rfl, hes.mi hmi, ?_⟩
  simp only [hes.drd, hes.tgf]
  rcases hr with ⟨j, hj, ej, hr⟩ | ⟨ej, hr⟩
  · refine Or.inl ⟨j, hj, ej, ?_⟩
    obtain ⟨⟨hk, hu⟩, hlc⟩ := hr
    exact fun J3 N3 O3 sz3 hq hO hz => h _ _ _ (LC.qe hli hlc hq hO hz) (hq.2.trans hk.symm) (fun _ => hu)
  · refine Or.inr ⟨ej, ?_⟩
    obtain ⟨hk, hlc⟩ := hr
    exact fun J3 N3 O3 sz3 hq hO hz => h _ _ _ (LC.qe hli hlc hq hO hz) (hq.2.trans hk.symm) (fun e => absurd (hk.symm.trans e) (by decide))
theorem ref_lostWithout {E : zk_E} {σ : zk_S} {sz : Nat} {r : Int32} (hli : LI E sz σ) {k : Int32} {σ2 : zk_S} {sz2 : Nat} (hr : R_lostWithout E σ sz r k σ2 sz2) {P : zk_P zk_S} {PX : zk_X zk_S} (h : ∀ b σ3 sz3, LI E sz3 σ3 → σ3.1 22 0 = k → (k = 0 → σ3.2.2.2.2 0 = b.toInt64) → P (some (.int b)) σ3 sz3) : sp_X11_lostWithout E [.ref (zk_ad E 22), .int r] σ2 sz2 P PX := by
  rw [spe_X11_lostWithout]
  unfold R_lostWithout at hr
  obtain ⟨J, N, Q, O, U⟩ := σ
  obtain ⟨J2, N2, Q2, O2, U2⟩ := σ2
  have hmi : MI J N := hli.2.1
  have hms := hmi.1
  try dsimp only at hr ⊢
  have hes : ES J J2 N N2 := by
    rcases hr with ⟨_, _, _, hr⟩ | ⟨_, hr⟩
    · rcases hr with ⟨_, hr⟩ | ⟨_, hr⟩
      · exact hr.2.es
      · exact hr.2.es
    · exact hr.2.es
  refine ⟨rfl, hes.mi hmi, ?_⟩
  simp only [hes.drd, hes.n36, hes.stuck, hes.tgs]
  rcases hr with ⟨j, hj, ej, hr⟩ | ⟨ej, hr⟩
  · refine Or.inl ⟨j, hj, ej, ?_⟩
    rcases hr with ⟨hc, hr⟩ | ⟨hc, hr⟩
    · refine ⟨fun _ => ?_, fun w => absurd w hc⟩
      obtain ⟨⟨hk, hu⟩, hlc⟩ := hr
      exact fun J3 N3 O3 sz3 hq hO hz => h _ _ _ (LC.qe hli hlc hq hO hz) (hq.2.trans hk.symm) (fun _ => hu)
    · refine ⟨fun w => absurd hc w, fun _ => ?_⟩
      obtain ⟨⟨hk, hu⟩, hlc⟩ := hr
      exact fun J3 N3 O3 sz3 hq hO hz => h _ _ _ (LC.qe hli hlc hq hO hz) (hq.2.trans hk.symm) (fun _ => hu)
  · refine Or.inr ⟨ej, ?_⟩
    obtain ⟨hk, hlc⟩ := hr
    exact fun J3 N3 O3 sz3 hq hO hz => h _ _ _ (LC.qe hli hlc hq hO hz) (hq.2.trans hk.symm) (fun e => absurd (hk.symm.trans e) (by decide))
theorem ref_timeWith {E : zk_E} {σ : zk_S} {sz : Nat} {r w : Int32} (hli : LI E sz σ) {k : Int32} {σ2 : zk_S} {sz2 : Nat} (hr : R_timeWith E σ sz r w k σ2 sz2) {P : zk_P zk_S} {PX : zk_X zk_S} (h : ∀ b σ3 sz3, LI E sz3 σ3 → σ3.1 22 0 = k → (k = 0 → σ3.2.2.2.2 0 = b.toInt64) → P (some (.int b)) σ3 sz3) : sp_X11_timeWith E [.ref (zk_ad E 22), .int r, .int w] σ2 sz2 P PX := by
  rw [spe_X11_timeWith]
  unfold R_timeWith at hr
  obtain ⟨J, N, Q, O, U⟩ := σ
  obtain ⟨J2, N2, Q2, O2, U2⟩ := σ2
  have hmi : MI J N := hli.2.1
  have hms := hmi.1
  try dsimp only at hr ⊢
  have hes : ES J J2 N N2 := by
    rcases hr with ⟨_, _, _, hr⟩ | ⟨_, hr⟩
    · rcases hr with ⟨_, hr⟩ | ⟨_, hr⟩
      · exact hr.2.es
      · exact hr.2.es
    · exact hr.2.es
  have hsz : E.1 + 55 ≤ sz2 := by
    rcases hr with ⟨_, _, _, hr⟩ | ⟨_, hr⟩
    · rcases hr with ⟨_, hr⟩ | ⟨_, hr⟩
      · exact Nat.le_trans hli.1 hr.2.1
      · exact Nat.le_trans hli.1 hr.2.1
    · exact Nat.le_trans hli.1 hr.2.1
  refine ⟨rfl, hes.mi hmi, hsz, ?_⟩
  simp only [hes.drd, hes.a7]
  rcases hr with ⟨j, hj, ej, hr⟩ | ⟨ej, hr⟩
  · refine Or.inl ⟨j, hj, ej, ?_⟩
    rcases hr with ⟨hc, hr⟩ | ⟨hc, hr⟩
    · refine ⟨fun _ => ?_, fun w => absurd (hc.symm.trans w) (by decide)⟩
      obtain ⟨hk, hlc⟩ := hr
      exact fun J3 N3 O3 sz3 hq hO hz => h _ _ _ (LC.qe hli hlc hq hO hz) (hq.2.trans hk.symm) (fun e => absurd (hk.symm.trans e) (by decide))
    · refine ⟨fun w => absurd (hc.symm.trans w) (by decide), fun _ => ?_⟩
      obtain ⟨⟨hk, hu⟩, hlc⟩ := hr
      exact fun J3 N3 O3 sz3 hq hO hz => h _ _ _ (LC.qe hli hlc hq hO hz) (hq.2.trans hk.symm) (fun _ => hu)
  · refine Or.inr ⟨ej, ?_⟩
    obtain ⟨hk, hlc⟩ := hr
    exact fun J3 N3 O3 sz3 hq hO hz => h _ _ _ (LC.qe hli hlc hq hO hz) (hq.2.trans hk.symm) (fun e => absurd (hk.symm.trans e) (by decide))
theorem ref_mostPeople {E : zk_E} {σ : zk_S} {sz : Nat} {r : Int32} (hli : LI E sz σ) {k : Int32} {σ2 : zk_S} {sz2 : Nat} (hr : R_mostPeople E σ sz r k σ2 sz2) {P : zk_P zk_S} {PX : zk_X zk_S} (h : ∀ b σ3 sz3, LI E sz3 σ3 → σ3.1 22 0 = k → (k = 0 → σ3.2.2.2.2 0 = b.toInt64) → P (some (.int b)) σ3 sz3) : sp_X11_mostPeople E [.ref (zk_ad E 22), .int r] σ2 sz2 P PX := by
  rw [spe_X11_mostPeople]
  unfold R_mostPeople at hr
  obtain ⟨J, N, Q, O, U⟩ := σ
  obtain ⟨J2, N2, Q2, O2, U2⟩ := σ2
  have hmi : MI J N := hli.2.1
  have hms := hmi.1
  try dsimp only at hr ⊢
  have hes : ES J J2 N N2 := by
    rcases hr with ⟨_, _, _, hr⟩ | ⟨_, hr⟩
    · exact hr.2.es
    · exact hr.2.es
  refine ⟨rfl, hes.mi hmi, ?_⟩
  simp only [hes.rd, hes.most]
  rcases hr with ⟨j, hj, ej, hr⟩ | ⟨ej, hr⟩
  · refine Or.inl ⟨j, hj, ej, ?_⟩
    obtain ⟨⟨hk, hu⟩, hlc⟩ := hr
    exact fun J3 N3 O3 sz3 hq hO hz => h _ _ _ (LC.qe hli hlc hq hO hz) (hq.2.trans hk.symm) (fun _ => hu)
  · refine Or.inr ⟨ej, ?_⟩
    obtain ⟨hk, hlc⟩ := hr
    exact fun J3 N3 O3 sz3 hq hO hz => h _ _ _ (LC.qe hli hlc hq hO hz) (hq.2.trans hk.symm) (fun e => absurd (hk.symm.trans e) (by decide))

