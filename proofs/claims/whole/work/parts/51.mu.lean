/-! the reference: addWindow; what a plan keeps to, after a door, a window -/
def c_win (J N : Nat → Nat → Int32) (j : Nat) (ix iy up w : Int32) : Int32 := if m_isIn w 1 6 = false then 2 else if m_nw J = 40 ∨ m_canBe J N j (-1) ix iy up w = false then 3 else 0
def uJ_win (J : Nat → Nat → Int32) : Nat → Nat → Int32 := zk_uj J 22 17 (J 22 17 + 1)
def uN_win (N : Nat → Nat → Int32) (n : Nat) (r x y up w : Int32) : Nat → Nat → Int32 := zk_un (zk_un (zk_un (zk_un (zk_un N 37 (upd (N 37) n r)) 38 (upd (N 38) n x)) 39 (upd (N 39) n y)) 41 (upd (N 41) n up)) 40 (upd (N 40) n w)
theorem MI.door {J N : Nat → Nat → Int32} (hm : MI J N) {j : Nat} {o x y up w : Int32} (hj : MR J N j) (ho : o = -1 ∨ ∃ k, MR J N k ∧ o = nI k) (hup : up = 0 ∨ up = 1) (h : c_door J N j o x y up w = 0) : MI (uJ_door J) (uN_door N (m_nd J) (nI j) o x y up w) ∧ m_nd (uJ_door J) = m_nd J + 1 := by
  have hgr := GR.of hm hj.1
  have hj20 := hj.lt hm
  obtain ⟨h1, h2, h3, h4, h5, h6, h7⟩ := hm
  obtain ⟨q1, q2, q3, q4, q5⟩ := h1
  have hd40 := q2.2
  unfold c_door at h
  by_cases a1 : m_isIn w 1 6 = false ∨ (if o = -1 then ¬ N 23 j = 0 else o = nI j ∨ ¬ N 23 o.toNatClampNeg = N 23 j)
  · rw [if_pos a1] at h; exact absurd h (by decide)
  · rw [if_neg a1] at h
    by_cases a2 : m_nd J = 40 ∨ m_canBe J N j o x y up w = false
    · rw [if_pos a2] at h; exact absurd h (by decide)
    · have w0 : m_isIn w 1 6 = true := by
        cases z : m_isIn w 1 6 with
        | false => exact absurd (Or.inl z) a1
        | true => rfl
      have hw := m_isIn_VN (lo := 1) (hi := 6) (by decide) (by decide) w0
      have hc : m_canBe J N j o x y up w = true := by
        cases z : m_canBe J N j o x y up w with
        | false => exact absurd (Or.inr z) a2
        | true => rfl
      have hn : ¬ m_nd J = 40 := fun z => a2 (Or.inl z)
      unfold m_canBe at hc
      rw [Bool.and_eq_true] at hc
      have hp := on_rg hgr hw (of_decide_eq_true hc.1)
      have e1 : (uJ_door J) 22 9 = nI (m_nd J + 1) := nI_s q2.1
      have e2 : m_nd (uJ_door J) = m_nd J + 1 := by
        show ((uJ_door J) 22 9).toNatClampNeg = _
        rw [e1, n_cl (by omega)]
      refine ⟨⟨⟨q1, ⟨by rw [e2]; exact e1, by rw [e2]; omega⟩, q3, q4, q5⟩, h2, fun d hd => ?_, h4, h5, h6, fun d hd hd2 => ?_⟩, e2⟩
      · rw [e2] at hd
        show (upd (N 30) (m_nd J) (nI j) d = -2 ∨ ∃ r, MR J N r ∧ upd (N 30) (m_nd J) (nI j) d = nI r ∧ (upd (N 31) (m_nd J) o d = -1 ∨ ∃ q, MR J N q ∧ q ≠ r ∧ upd (N 31) (m_nd J) o d = nI q)) ∧ VN (upd (N 32) (m_nd J) x d) 0 90 ∧ VN (upd (N 33) (m_nd J) y d) 0 90 ∧ VN (upd (N 34) (m_nd J) w d) 1 6 ∧ (upd (N 35) (m_nd J) up d = 0 ∨ upd (N 35) (m_nd J) up d = 1) ∧ (N 36 d = 0 ∨ N 36 d = 1)
        by_cases z : d = m_nd J
        · rw [z, upd_self, upd_self, upd_self, upd_self, upd_self, upd_self]
          refine ⟨Or.inr ⟨j, hj, rfl, ?_⟩, hp.1, hp.2, hw, hup, Or.inl (h7 _ (Nat.le_refl _) (by omega))⟩
          rcases ho with ho | ⟨k, hk, rfl⟩
          · exact Or.inl ho
          · refine Or.inr ⟨k, hk, fun zz => a1 (Or.inr ?_), rfl⟩
            have hk20 : k < 20 := Nat.lt_of_lt_of_le hk.1 q1.2
            rw [if_neg (nI_ne1 (by omega)), zz]
            exact Or.inl rfl
        · rw [upd_ne _ _ z, upd_ne _ _ z, upd_ne _ _ z, upd_ne _ _ z, upd_ne _ _ z, upd_ne _ _ z]
          exact h3 d (by omega)
      · rw [e2] at hd
        exact h7 d (by omega) hd2
theorem MI.win {J N : Nat → Nat → Int32} (hm : MI J N) {j : Nat} {x y up w : Int32} (hj : MR J N j) (hup : up = 0 ∨ up = 1) (h : c_win J N j x y up w = 0) : MI (uJ_win J) (uN_win N (m_nw J) (nI j) x y up w) ∧ m_nw (uJ_win J) = m_nw J + 1 := by
  have hgr := GR.of hm hj.1
  obtain ⟨h1, h2, h3, h4, h5, h6, h7⟩ := hm
  obtain ⟨q1, q2, q3, q4, q5⟩ := h1
  have hd40 := q3.2
  unfold c_win at h
  by_cases a1 : m_isIn w 1 6 = false
  · rw [if_pos a1] at h; exact absurd h (by decide)
  · rw [if_neg a1] at h
    by_cases a2 : m_nw J = 40 ∨ m_canBe J N j (-1) x y up w = false
    · rw [if_pos a2] at h; exact absurd h (by decide)
    · have w0 : m_isIn w 1 6 = true := by
        cases z : m_isIn w 1 6 with
        | false => exact absurd z a1
        | true => rfl
      have hw := m_isIn_VN (lo := 1) (hi := 6) (by decide) (by decide) w0
      have hc : m_canBe J N j (-1) x y up w = true := by
        cases z : m_canBe J N j (-1) x y up w with
        | false => exact absurd (Or.inr z) a2
        | true => rfl
      have hn : ¬ m_nw J = 40 := fun z => a2 (Or.inl z)
      unfold m_canBe at hc
      rw [Bool.and_eq_true] at hc
      have hp := on_rg hgr hw (of_decide_eq_true hc.1)
      have e1 : (uJ_win J) 22 17 = nI (m_nw J + 1) := nI_s q3.1
      have e2 : m_nw (uJ_win J) = m_nw J + 1 := by
        show ((uJ_win J) 22 17).toNatClampNeg = _
        rw [e1, n_cl (by omega)]
      refine ⟨⟨⟨q1, q2, ⟨by rw [e2]; exact e1, by rw [e2]; omega⟩, q4, q5⟩, h2, h3, fun d hd => ?_, h5, h6, h7⟩, e2⟩
      rw [e2] at hd
      show (upd (N 37) (m_nw J) (nI j) d = -2 ∨ ∃ r, MR J N r ∧ upd (N 37) (m_nw J) (nI j) d = nI r) ∧ VN (upd (N 38) (m_nw J) x d) 0 90 ∧ VN (upd (N 39) (m_nw J) y d) 0 90 ∧ VN (upd (N 40) (m_nw J) w d) 1 6 ∧ (upd (N 41) (m_nw J) up d = 0 ∨ upd (N 41) (m_nw J) up d = 1)
      by_cases z : d = m_nw J
      · rw [z, upd_self, upd_self, upd_self, upd_self, upd_self]
        exact ⟨Or.inr ⟨j, hj, rfl⟩, hp.1, hp.2, hw, hup⟩
      · rw [upd_ne _ _ z, upd_ne _ _ z, upd_ne _ _ z, upd_ne _ _ z, upd_ne _ _ z]
        exact h4 d (by omega)
def sp_X11_addWindow (E : zk_E) : zk_Sp zk_S := fun av σ sz P PX => match av with
  | [.ref a, .int r, .int x, .int y, .int up, .int w] => a = zk_ad E 22 ∧ MI σ.1 σ.2.1 ∧ (up = 0 ∨ up = 1) ∧ RD σ.1 σ.2.1 r (fun j => (¬ c_win σ.1 σ.2.1 j x y up w = 0 → ZQ σ sz (c_win σ.1 σ.2.1 j x y up w) (some (.int 0)) P) ∧ (c_win σ.1 σ.2.1 j x y up w = 0 → P (some (.int (m_light (uJ_win σ.1) (uN_win σ.2.1 (m_nw σ.1) r x y up w) r))) (uJ_win (zk_uj σ.1 22 0 0), uN_win σ.2.1 (m_nw σ.1) r x y up w, σ.2.2) sz)) (ZQ σ sz 1 (some (.int 0)) P)
  | _ => False
theorem spe_X11_addWindow (E : zk_E) (a : Nat) (r : Int32) (x : Int32) (y : Int32) (up : Int32) (w : Int32) (σ : zk_S) (sz : Nat) (P : zk_P zk_S) (PX : zk_X zk_S) : sp_X11_addWindow E [.ref a, .int r, .int x, .int y, .int up, .int w] σ sz P PX = (a = zk_ad E 22 ∧ MI σ.1 σ.2.1 ∧ (up = 0 ∨ up = 1) ∧ RD σ.1 σ.2.1 r (fun j => (¬ c_win σ.1 σ.2.1 j x y up w = 0 → ZQ σ sz (c_win σ.1 σ.2.1 j x y up w) (some (.int 0)) P) ∧ (c_win σ.1 σ.2.1 j x y up w = 0 → P (some (.int (m_light (uJ_win σ.1) (uN_win σ.2.1 (m_nw σ.1) r x y up w) r))) (uJ_win (zk_uj σ.1 22 0 0), uN_win σ.2.1 (m_nw σ.1) r x y up w, σ.2.2) sz)) (ZQ σ sz 1 (some (.int 0)) P)) := propext Iff.rfl
def C_X11_addWindow (E : zk_E) : zk_Cl zk_S := zk_lka [(7, 2, 0, 0, zk_rv (zk_VT E) (fun ci => Nat.beq ci 10) (sp_X11_isRoom E)), (15, 2, 0, 0, zk_rv (zk_VT E) (fun ci => Nat.beq ci 10) (sp_X11_no E)), (24, 3, 0, 0, sp_X11_isIn E), (32, 2, 0, 0, zk_rv (zk_VT E) (fun ci => Nat.beq ci 10) (sp_X11_no E)), (54, 7, 0, 0, zk_rv (zk_VT E) (fun ci => Nat.beq ci 10) (sp_X11_canBe E)), (62, 2, 0, 0, zk_rv (zk_VT E) (fun ci => Nat.beq ci 10) (sp_X11_no E)), (127, 2, 0, 0, zk_rv (zk_VT E) (fun ci => Nat.beq ci 10) (sp_X11_light E))]
theorem r_X11_addWindow (E : zk_E) (P : zk_P zk_S) (PX : zk_X zk_S) (K : Nat → zk_L → List Value → zk_W zk_S → Prop) : (∀ (n : Nat) (l1 l2 l3 l4 l5 : Option Value) (y0 : Value) (r : List Value) (σ : zk_S) (sz k c : Nat), zk_run E (zk_VT E) M_X11_addWindow (C_X11_addWindow E) P PX K (n + 1) 0 [some y0, l1, l2, l3, l4, l5] r (σ, sz, k, c) = (zk_isr y0 ∧ zk_run E (zk_VT E) M_X11_addWindow (C_X11_addWindow E) P PX K n 1 [some y0, l1, l2, l3, l4, l5] (y0 :: r) (σ, sz, k, c))) ∧
  (∀ (n : Nat) (l0 l1 l2 l3 l4 l5 : Option Value)  (r : List Value) (σ : zk_S) (sz k c : Nat), zk_run E (zk_VT E) M_X11_addWindow (C_X11_addWindow E) P PX K (n + 1) 1 [l0, l1, l2, l3, l4, l5] r (σ, sz, k, c) = zk_run E (zk_VT E) M_X11_addWindow (C_X11_addWindow E) P PX K n 2 [l0, l1, l2, l3, l4, l5] (.int (0) :: r) (σ, sz, k, c)) ∧
  (∀ (n : Nat) (l0 l1 l2 l3 l4 l5 : Option Value) (a : Nat) (v : Value) (r : List Value) (σ : zk_S) (sz k c : Nat), zk_run E (zk_VT E) M_X11_addWindow (C_X11_addWindow E) P PX K (n + 1) 2 [l0, l1, l2, l3, l4, l5] (v :: .ref a :: r) (σ, sz, k, c) = zk_put (zk_view E σ a) [10] 0 0 v (zk_pfok E σ a 0 v ∧ zk_run E (zk_VT E) M_X11_addWindow (C_X11_addWindow E) P PX K n 5 [l0, l1, l2, l3, l4, l5] r (zk_pf E σ a 0 v, sz, k, c))) ∧
  (∀ (n : Nat) (l1 l2 l3 l4 l5 : Option Value) (y0 : Value) (r : List Value) (σ : zk_S) (sz k c : Nat), zk_run E (zk_VT E) M_X11_addWindow (C_X11_addWindow E) P PX K (n + 1) 5 [some y0, l1, l2, l3, l4, l5] r (σ, sz, k, c) = (zk_isr y0 ∧ zk_run E (zk_VT E) M_X11_addWindow (C_X11_addWindow E) P PX K n 6 [some y0, l1, l2, l3, l4, l5] (y0 :: r) (σ, sz, k, c))) ∧
  (∀ (n : Nat) (l0 l2 l3 l4 l5 : Option Value) (y1 : Int32) (r : List Value) (σ : zk_S) (sz k c : Nat), zk_run E (zk_VT E) M_X11_addWindow (C_X11_addWindow E) P PX K (n + 1) 6 [l0, some (.int y1), l2, l3, l4, l5] r (σ, sz, k, c) = zk_run E (zk_VT E) M_X11_addWindow (C_X11_addWindow E) P PX K n 7 [l0, some (.int y1), l2, l3, l4, l5] (.int y1 :: r) (σ, sz, k, c)) ∧
  (∀ (n : Nat) (l0 l1 l2 l3 l4 l5 : Option Value) (v0 : Value) (v1 : Value)  (σ : zk_S) (sz k c : Nat), zk_run E (zk_VT E) M_X11_addWindow (C_X11_addWindow E) P PX K (n + 1) 7 [l0, l1, l2, l3, l4, l5] [v0, v1] (σ, sz, k, c) = (k + 0 ≤ 0 ∧ c + 0 ≤ 0 ∧ (zk_rv (zk_VT E) (fun ci => Nat.beq ci 10) (sp_X11_isRoom E)) [v1, v0] σ sz (fun v s2 z2 => zk_run E (zk_VT E) M_X11_addWindow (C_X11_addWindow E) P PX K n 10 [l0, l1, l2, l3, l4, l5] (zk_psh v []) (s2, z2, k + 0, c + 0)) (fun X s2 z2 => PX X s2 z2))) ∧
  (∀ (n : Nat) (l0 l1 l2 l3 l4 l5 : Option Value) (x : Int32) (r : List Value) (σ : zk_S) (sz k c : Nat), zk_run E (zk_VT E) M_X11_addWindow (C_X11_addWindow E) P PX K (n + 1) 10 [l0, l1, l2, l3, l4, l5] (.int x :: r) (σ, sz, k, c) = ((¬ x = 0 → zk_run E (zk_VT E) M_X11_addWindow (C_X11_addWindow E) P PX K n 19 [l0, l1, l2, l3, l4, l5] r (σ, sz, k, c)) ∧ (¬ (¬ x = 0) → zk_run E (zk_VT E) M_X11_addWindow (C_X11_addWindow E) P PX K n 13 [l0, l1, l2, l3, l4, l5] r (σ, sz, k, c)))) ∧
  (∀ (n : Nat) (l1 l2 l3 l4 l5 : Option Value) (y0 : Value) (r : List Value) (σ : zk_S) (sz k c : Nat), zk_run E (zk_VT E) M_X11_addWindow (C_X11_addWindow E) P PX K (n + 1) 13 [some y0, l1, l2, l3, l4, l5] r (σ, sz, k, c) = (zk_isr y0 ∧ zk_run E (zk_VT E) M_X11_addWindow (C_X11_addWindow E) P PX K n 14 [some y0, l1, l2, l3, l4, l5] (y0 :: r) (σ, sz, k, c))) ∧
  (∀ (n : Nat) (l0 l1 l2 l3 l4 l5 : Option Value)  (r : List Value) (σ : zk_S) (sz k c : Nat), zk_run E (zk_VT E) M_X11_addWindow (C_X11_addWindow E) P PX K (n + 1) 14 [l0, l1, l2, l3, l4, l5] r (σ, sz, k, c) = zk_run E (zk_VT E) M_X11_addWindow (C_X11_addWindow E) P PX K n 15 [l0, l1, l2, l3, l4, l5] (.int (1) :: r) (σ, sz, k, c)) ∧
  (∀ (n : Nat) (l0 l1 l2 l3 l4 l5 : Option Value) (v0 : Value) (v1 : Value)  (σ : zk_S) (sz k c : Nat), zk_run E (zk_VT E) M_X11_addWindow (C_X11_addWindow E) P PX K (n + 1) 15 [l0, l1, l2, l3, l4, l5] [v0, v1] (σ, sz, k, c) = (k + 0 ≤ 0 ∧ c + 0 ≤ 0 ∧ (zk_rv (zk_VT E) (fun ci => Nat.beq ci 10) (sp_X11_no E)) [v1, v0] σ sz (fun v s2 z2 => zk_run E (zk_VT E) M_X11_addWindow (C_X11_addWindow E) P PX K n 18 [l0, l1, l2, l3, l4, l5] (zk_psh v []) (s2, z2, k + 0, c + 0)) (fun X s2 z2 => PX X s2 z2))) ∧
  (∀ (n : Nat) (l0 l1 l2 l3 l4 l5 : Option Value) (x : Int32)  (σ : zk_S) (sz k c : Nat), zk_run E (zk_VT E) M_X11_addWindow (C_X11_addWindow E) P PX K (n + 1) 18 [l0, l1, l2, l3, l4, l5] [.int x] (σ, sz, k, c) = (zk_nok (some (.int)) x ∧ P (some (.int x)) σ sz ∧ k ≤ 0 ∧ c ≤ 0)) ∧
  (∀ (n : Nat) (l0 l1 l2 l3 l4 : Option Value) (y5 : Int32) (r : List Value) (σ : zk_S) (sz k c : Nat), zk_run E (zk_VT E) M_X11_addWindow (C_X11_addWindow E) P PX K (n + 1) 19 [l0, l1, l2, l3, l4, some (.int y5)] r (σ, sz, k, c) = zk_run E (zk_VT E) M_X11_addWindow (C_X11_addWindow E) P PX K n 21 [l0, l1, l2, l3, l4, some (.int y5)] (.int y5 :: r) (σ, sz, k, c)) ∧
  (∀ (n : Nat) (l0 l1 l2 l3 l4 l5 : Option Value)  (r : List Value) (σ : zk_S) (sz k c : Nat), zk_run E (zk_VT E) M_X11_addWindow (C_X11_addWindow E) P PX K (n + 1) 21 [l0, l1, l2, l3, l4, l5] r (σ, sz, k, c) = zk_run E (zk_VT E) M_X11_addWindow (C_X11_addWindow E) P PX K n 22 [l0, l1, l2, l3, l4, l5] (.int (1) :: r) (σ, sz, k, c)) ∧
  (∀ (n : Nat) (l0 l1 l2 l3 l4 l5 : Option Value)  (r : List Value) (σ : zk_S) (sz k c : Nat), zk_run E (zk_VT E) M_X11_addWindow (C_X11_addWindow E) P PX K (n + 1) 22 [l0, l1, l2, l3, l4, l5] r (σ, sz, k, c) = zk_run E (zk_VT E) M_X11_addWindow (C_X11_addWindow E) P PX K n 24 [l0, l1, l2, l3, l4, l5] (.int (6) :: r) (σ, sz, k, c)) ∧
  (∀ (n : Nat) (l0 l1 l2 l3 l4 l5 : Option Value) (v0 : Value) (v1 : Value) (v2 : Value)  (σ : zk_S) (sz k c : Nat), zk_run E (zk_VT E) M_X11_addWindow (C_X11_addWindow E) P PX K (n + 1) 24 [l0, l1, l2, l3, l4, l5] [v0, v1, v2] (σ, sz, k, c) = (k + 0 ≤ 0 ∧ c + 0 ≤ 0 ∧ (sp_X11_isIn E) [v2, v1, v0] σ sz (fun v s2 z2 => zk_run E (zk_VT E) M_X11_addWindow (C_X11_addWindow E) P PX K n 27 [l0, l1, l2, l3, l4, l5] (zk_psh v []) (s2, z2, k + 0, c + 0)) (fun X s2 z2 => PX X s2 z2))) ∧
  (∀ (n : Nat) (l0 l1 l2 l3 l4 l5 : Option Value) (x : Int32) (r : List Value) (σ : zk_S) (sz k c : Nat), zk_run E (zk_VT E) M_X11_addWindow (C_X11_addWindow E) P PX K (n + 1) 27 [l0, l1, l2, l3, l4, l5] (.int x :: r) (σ, sz, k, c) = ((¬ x = 0 → zk_run E (zk_VT E) M_X11_addWindow (C_X11_addWindow E) P PX K n 36 [l0, l1, l2, l3, l4, l5] r (σ, sz, k, c)) ∧ (¬ (¬ x = 0) → zk_run E (zk_VT E) M_X11_addWindow (C_X11_addWindow E) P PX K n 30 [l0, l1, l2, l3, l4, l5] r (σ, sz, k, c)))) ∧
  (∀ (n : Nat) (l1 l2 l3 l4 l5 : Option Value) (y0 : Value) (r : List Value) (σ : zk_S) (sz k c : Nat), zk_run E (zk_VT E) M_X11_addWindow (C_X11_addWindow E) P PX K (n + 1) 30 [some y0, l1, l2, l3, l4, l5] r (σ, sz, k, c) = (zk_isr y0 ∧ zk_run E (zk_VT E) M_X11_addWindow (C_X11_addWindow E) P PX K n 31 [some y0, l1, l2, l3, l4, l5] (y0 :: r) (σ, sz, k, c))) ∧
  (∀ (n : Nat) (l0 l1 l2 l3 l4 l5 : Option Value)  (r : List Value) (σ : zk_S) (sz k c : Nat), zk_run E (zk_VT E) M_X11_addWindow (C_X11_addWindow E) P PX K (n + 1) 31 [l0, l1, l2, l3, l4, l5] r (σ, sz, k, c) = zk_run E (zk_VT E) M_X11_addWindow (C_X11_addWindow E) P PX K n 32 [l0, l1, l2, l3, l4, l5] (.int (2) :: r) (σ, sz, k, c)) ∧
  (∀ (n : Nat) (l0 l1 l2 l3 l4 l5 : Option Value) (v0 : Value) (v1 : Value)  (σ : zk_S) (sz k c : Nat), zk_run E (zk_VT E) M_X11_addWindow (C_X11_addWindow E) P PX K (n + 1) 32 [l0, l1, l2, l3, l4, l5] [v0, v1] (σ, sz, k, c) = (k + 0 ≤ 0 ∧ c + 0 ≤ 0 ∧ (zk_rv (zk_VT E) (fun ci => Nat.beq ci 10) (sp_X11_no E)) [v1, v0] σ sz (fun v s2 z2 => zk_run E (zk_VT E) M_X11_addWindow (C_X11_addWindow E) P PX K n 35 [l0, l1, l2, l3, l4, l5] (zk_psh v []) (s2, z2, k + 0, c + 0)) (fun X s2 z2 => PX X s2 z2))) ∧
  (∀ (n : Nat) (l0 l1 l2 l3 l4 l5 : Option Value) (x : Int32)  (σ : zk_S) (sz k c : Nat), zk_run E (zk_VT E) M_X11_addWindow (C_X11_addWindow E) P PX K (n + 1) 35 [l0, l1, l2, l3, l4, l5] [.int x] (σ, sz, k, c) = (zk_nok (some (.int)) x ∧ P (some (.int x)) σ sz ∧ k ≤ 0 ∧ c ≤ 0)) ∧
  (∀ (n : Nat) (l1 l2 l3 l4 l5 : Option Value) (y0 : Value) (r : List Value) (σ : zk_S) (sz k c : Nat), zk_run E (zk_VT E) M_X11_addWindow (C_X11_addWindow E) P PX K (n + 1) 36 [some y0, l1, l2, l3, l4, l5] r (σ, sz, k, c) = (zk_isr y0 ∧ zk_run E (zk_VT E) M_X11_addWindow (C_X11_addWindow E) P PX K n 37 [some y0, l1, l2, l3, l4, l5] (y0 :: r) (σ, sz, k, c))) ∧
  (∀ (n : Nat) (l0 l1 l2 l3 l4 l5 : Option Value) (a : Nat) (r : List Value) (σ : zk_S) (sz k c : Nat), zk_run E (zk_VT E) M_X11_addWindow (C_X11_addWindow E) P PX K (n + 1) 37 [l0, l1, l2, l3, l4, l5] (.ref a :: r) (σ, sz, k, c) = zk_fld (zk_view E σ a) [10] 17 (fun v => zk_run E (zk_VT E) M_X11_addWindow (C_X11_addWindow E) P PX K n 40 [l0, l1, l2, l3, l4, l5] (v :: r) (σ, sz, k, c))) ∧
  (∀ (n : Nat) (l0 l1 l2 l3 l4 l5 : Option Value)  (r : List Value) (σ : zk_S) (sz k c : Nat), zk_run E (zk_VT E) M_X11_addWindow (C_X11_addWindow E) P PX K (n + 1) 40 [l0, l1, l2, l3, l4, l5] r (σ, sz, k, c) = zk_run E (zk_VT E) M_X11_addWindow (C_X11_addWindow E) P PX K n 42 [l0, l1, l2, l3, l4, l5] (.int (40) :: r) (σ, sz, k, c)) ∧
  (∀ (n : Nat) (l0 l1 l2 l3 l4 l5 : Option Value) (x y : Int32) (r : List Value) (σ : zk_S) (sz k c : Nat), zk_run E (zk_VT E) M_X11_addWindow (C_X11_addWindow E) P PX K (n + 1) 42 [l0, l1, l2, l3, l4, l5] (.int y :: .int x :: r) (σ, sz, k, c) = ((x = y → zk_run E (zk_VT E) M_X11_addWindow (C_X11_addWindow E) P PX K n 60 [l0, l1, l2, l3, l4, l5] r (σ, sz, k, c)) ∧ (¬ (x = y) → zk_run E (zk_VT E) M_X11_addWindow (C_X11_addWindow E) P PX K n 45 [l0, l1, l2, l3, l4, l5] r (σ, sz, k, c)))) ∧
  (∀ (n : Nat) (l1 l2 l3 l4 l5 : Option Value) (y0 : Value) (r : List Value) (σ : zk_S) (sz k c : Nat), zk_run E (zk_VT E) M_X11_addWindow (C_X11_addWindow E) P PX K (n + 1) 45 [some y0, l1, l2, l3, l4, l5] r (σ, sz, k, c) = (zk_isr y0 ∧ zk_run E (zk_VT E) M_X11_addWindow (C_X11_addWindow E) P PX K n 46 [some y0, l1, l2, l3, l4, l5] (y0 :: r) (σ, sz, k, c))) ∧
  (∀ (n : Nat) (l0 l2 l3 l4 l5 : Option Value) (y1 : Int32) (r : List Value) (σ : zk_S) (sz k c : Nat), zk_run E (zk_VT E) M_X11_addWindow (C_X11_addWindow E) P PX K (n + 1) 46 [l0, some (.int y1), l2, l3, l4, l5] r (σ, sz, k, c) = zk_run E (zk_VT E) M_X11_addWindow (C_X11_addWindow E) P PX K n 47 [l0, some (.int y1), l2, l3, l4, l5] (.int y1 :: r) (σ, sz, k, c)) ∧
  (∀ (n : Nat) (l0 l1 l2 l3 l4 l5 : Option Value)  (r : List Value) (σ : zk_S) (sz k c : Nat), zk_run E (zk_VT E) M_X11_addWindow (C_X11_addWindow E) P PX K (n + 1) 47 [l0, l1, l2, l3, l4, l5] r (σ, sz, k, c) = zk_run E (zk_VT E) M_X11_addWindow (C_X11_addWindow E) P PX K n 48 [l0, l1, l2, l3, l4, l5] (.int ((-1)) :: r) (σ, sz, k, c)) ∧
  (∀ (n : Nat) (l0 l1 l3 l4 l5 : Option Value) (y2 : Int32) (r : List Value) (σ : zk_S) (sz k c : Nat), zk_run E (zk_VT E) M_X11_addWindow (C_X11_addWindow E) P PX K (n + 1) 48 [l0, l1, some (.int y2), l3, l4, l5] r (σ, sz, k, c) = zk_run E (zk_VT E) M_X11_addWindow (C_X11_addWindow E) P PX K n 49 [l0, l1, some (.int y2), l3, l4, l5] (.int y2 :: r) (σ, sz, k, c)) ∧
  (∀ (n : Nat) (l0 l1 l2 l4 l5 : Option Value) (y3 : Int32) (r : List Value) (σ : zk_S) (sz k c : Nat), zk_run E (zk_VT E) M_X11_addWindow (C_X11_addWindow E) P PX K (n + 1) 49 [l0, l1, l2, some (.int y3), l4, l5] r (σ, sz, k, c) = zk_run E (zk_VT E) M_X11_addWindow (C_X11_addWindow E) P PX K n 50 [l0, l1, l2, some (.int y3), l4, l5] (.int y3 :: r) (σ, sz, k, c)) ∧
  (∀ (n : Nat) (l0 l1 l2 l3 l5 : Option Value) (y4 : Int32) (r : List Value) (σ : zk_S) (sz k c : Nat), zk_run E (zk_VT E) M_X11_addWindow (C_X11_addWindow E) P PX K (n + 1) 50 [l0, l1, l2, l3, some (.int y4), l5] r (σ, sz, k, c) = zk_run E (zk_VT E) M_X11_addWindow (C_X11_addWindow E) P PX K n 52 [l0, l1, l2, l3, some (.int y4), l5] (.int y4 :: r) (σ, sz, k, c)) ∧
  (∀ (n : Nat) (l0 l1 l2 l3 l4 : Option Value) (y5 : Int32) (r : List Value) (σ : zk_S) (sz k c : Nat), zk_run E (zk_VT E) M_X11_addWindow (C_X11_addWindow E) P PX K (n + 1) 52 [l0, l1, l2, l3, l4, some (.int y5)] r (σ, sz, k, c) = zk_run E (zk_VT E) M_X11_addWindow (C_X11_addWindow E) P PX K n 54 [l0, l1, l2, l3, l4, some (.int y5)] (.int y5 :: r) (σ, sz, k, c)) ∧
  (∀ (n : Nat) (l0 l1 l2 l3 l4 l5 : Option Value) (v0 : Value) (v1 : Value) (v2 : Value) (v3 : Value) (v4 : Value) (v5 : Value) (v6 : Value)  (σ : zk_S) (sz k c : Nat), zk_run E (zk_VT E) M_X11_addWindow (C_X11_addWindow E) P PX K (n + 1) 54 [l0, l1, l2, l3, l4, l5] [v0, v1, v2, v3, v4, v5, v6] (σ, sz, k, c) = (k + 0 ≤ 0 ∧ c + 0 ≤ 0 ∧ (zk_rv (zk_VT E) (fun ci => Nat.beq ci 10) (sp_X11_canBe E)) [v6, v5, v4, v3, v2, v1, v0] σ sz (fun v s2 z2 => zk_run E (zk_VT E) M_X11_addWindow (C_X11_addWindow E) P PX K n 57 [l0, l1, l2, l3, l4, l5] (zk_psh v []) (s2, z2, k + 0, c + 0)) (fun X s2 z2 => PX X s2 z2))) ∧
  (∀ (n : Nat) (l0 l1 l2 l3 l4 l5 : Option Value) (x : Int32) (r : List Value) (σ : zk_S) (sz k c : Nat), zk_run E (zk_VT E) M_X11_addWindow (C_X11_addWindow E) P PX K (n + 1) 57 [l0, l1, l2, l3, l4, l5] (.int x :: r) (σ, sz, k, c) = ((¬ x = 0 → zk_run E (zk_VT E) M_X11_addWindow (C_X11_addWindow E) P PX K n 66 [l0, l1, l2, l3, l4, l5] r (σ, sz, k, c)) ∧ (¬ (¬ x = 0) → zk_run E (zk_VT E) M_X11_addWindow (C_X11_addWindow E) P PX K n 60 [l0, l1, l2, l3, l4, l5] r (σ, sz, k, c)))) ∧
  (∀ (n : Nat) (l1 l2 l3 l4 l5 : Option Value) (y0 : Value) (r : List Value) (σ : zk_S) (sz k c : Nat), zk_run E (zk_VT E) M_X11_addWindow (C_X11_addWindow E) P PX K (n + 1) 60 [some y0, l1, l2, l3, l4, l5] r (σ, sz, k, c) = (zk_isr y0 ∧ zk_run E (zk_VT E) M_X11_addWindow (C_X11_addWindow E) P PX K n 61 [some y0, l1, l2, l3, l4, l5] (y0 :: r) (σ, sz, k, c))) ∧
  (∀ (n : Nat) (l0 l1 l2 l3 l4 l5 : Option Value)  (r : List Value) (σ : zk_S) (sz k c : Nat), zk_run E (zk_VT E) M_X11_addWindow (C_X11_addWindow E) P PX K (n + 1) 61 [l0, l1, l2, l3, l4, l5] r (σ, sz, k, c) = zk_run E (zk_VT E) M_X11_addWindow (C_X11_addWindow E) P PX K n 62 [l0, l1, l2, l3, l4, l5] (.int (3) :: r) (σ, sz, k, c)) ∧
  (∀ (n : Nat) (l0 l1 l2 l3 l4 l5 : Option Value) (v0 : Value) (v1 : Value)  (σ : zk_S) (sz k c : Nat), zk_run E (zk_VT E) M_X11_addWindow (C_X11_addWindow E) P PX K (n + 1) 62 [l0, l1, l2, l3, l4, l5] [v0, v1] (σ, sz, k, c) = (k + 0 ≤ 0 ∧ c + 0 ≤ 0 ∧ (zk_rv (zk_VT E) (fun ci => Nat.beq ci 10) (sp_X11_no E)) [v1, v0] σ sz (fun v s2 z2 => zk_run E (zk_VT E) M_X11_addWindow (C_X11_addWindow E) P PX K n 65 [l0, l1, l2, l3, l4, l5] (zk_psh v []) (s2, z2, k + 0, c + 0)) (fun X s2 z2 => PX X s2 z2))) ∧
  (∀ (n : Nat) (l0 l1 l2 l3 l4 l5 : Option Value) (x : Int32)  (σ : zk_S) (sz k c : Nat), zk_run E (zk_VT E) M_X11_addWindow (C_X11_addWindow E) P PX K (n + 1) 65 [l0, l1, l2, l3, l4, l5] [.int x] (σ, sz, k, c) = (zk_nok (some (.int)) x ∧ P (some (.int x)) σ sz ∧ k ≤ 0 ∧ c ≤ 0)) ∧
  (∀ (n : Nat) (l1 l2 l3 l4 l5 : Option Value) (y0 : Value) (r : List Value) (σ : zk_S) (sz k c : Nat), zk_run E (zk_VT E) M_X11_addWindow (C_X11_addWindow E) P PX K (n + 1) 66 [some y0, l1, l2, l3, l4, l5] r (σ, sz, k, c) = (zk_isr y0 ∧ zk_run E (zk_VT E) M_X11_addWindow (C_X11_addWindow E) P PX K n 67 [some y0, l1, l2, l3, l4, l5] (y0 :: r) (σ, sz, k, c))) ∧
  (∀ (n : Nat) (l0 l1 l2 l3 l4 l5 : Option Value) (a : Nat) (r : List Value) (σ : zk_S) (sz k c : Nat), zk_run E (zk_VT E) M_X11_addWindow (C_X11_addWindow E) P PX K (n + 1) 67 [l0, l1, l2, l3, l4, l5] (.ref a :: r) (σ, sz, k, c) = zk_fld (zk_view E σ a) [10] 18 (fun v => zk_run E (zk_VT E) M_X11_addWindow (C_X11_addWindow E) P PX K n 70 [l0, l1, l2, l3, l4, l5] (v :: r) (σ, sz, k, c))) ∧
  (∀ (n : Nat) (l1 l2 l3 l4 l5 : Option Value) (y0 : Value) (r : List Value) (σ : zk_S) (sz k c : Nat), zk_run E (zk_VT E) M_X11_addWindow (C_X11_addWindow E) P PX K (n + 1) 70 [some y0, l1, l2, l3, l4, l5] r (σ, sz, k, c) = (zk_isr y0 ∧ zk_run E (zk_VT E) M_X11_addWindow (C_X11_addWindow E) P PX K n 71 [some y0, l1, l2, l3, l4, l5] (y0 :: r) (σ, sz, k, c))) := ⟨by intros; rfl, by intros; rfl, by intros; rfl, by intros; rfl, by intros; rfl, by intros; rfl, by intros; rfl, by intros; rfl, by intros; rfl, by intros; rfl, by intros; rfl, by intros; rfl, by intros; rfl, by intros; rfl, by intros; rfl, by intros; rfl, by intros; rfl, by intros; rfl, by intros; rfl, by intros; rfl, by intros; rfl, by intros; rfl, by intros; rfl, by intros; rfl, by intros; rfl, by intros; rfl, by intros; rfl, by intros; rfl, by intros; rfl, by intros; rfl, by intros; rfl, by intros; rfl, by intros; rfl, by intros; rfl, by intros; rfl, by intros; rfl, by intros; rfl, by intros; rfl, by intros; rfl, by intros; rfl⟩
theorem r_X11_addWindow_1 (E : zk_E) (P : zk_P zk_S) (PX : zk_X zk_S) (K : Nat → zk_L → List Value → zk_W zk_S → Prop) : (∀ (n : Nat) (l0 l1 l2 l3 l4 l5 : Option Value) (a : Nat) (r : List Value) (σ : zk_S) (sz k c : Nat), zk_run E (zk_VT E) M_X11_addWindow (C_X11_addWindow E) P PX K (n + 1) 71 [l0, l1, l2, l3, l4, l5] (.ref a :: r) (σ, sz, k, c) = zk_fld (zk_view E σ a) [10] 17 (fun v => zk_run E (zk_VT E) M_X11_addWindow (C_X11_addWindow E) P PX K n 74 [l0, l1, l2, l3, l4, l5] (v :: r) (σ, sz, k, c))) ∧
  (∀ (n : Nat) (l0 l2 l3 l4 l5 : Option Value) (y1 : Int32) (r : List Value) (σ : zk_S) (sz k c : Nat), zk_run E (zk_VT E) M_X11_addWindow (C_X11_addWindow E) P PX K (n + 1) 74 [l0, some (.int y1), l2, l3, l4, l5] r (σ, sz, k, c) = zk_run E (zk_VT E) M_X11_addWindow (C_X11_addWindow E) P PX K n 75 [l0, some (.int y1), l2, l3, l4, l5] (.int y1 :: r) (σ, sz, k, c)) ∧
  (∀ (n : Nat) (l0 l1 l2 l3 l4 l5 : Option Value) (a : Nat) (i x : Int32) (r : List Value) (σ : zk_S) (sz k c : Nat), zk_run E (zk_VT E) M_X11_addWindow (C_X11_addWindow E) P PX K (n + 1) 75 [l0, l1, l2, l3, l4, l5] (.int x :: .int i :: .ref a :: r) (σ, sz, k, c) = zk_ist (zk_view E σ a) (zk_ar E 0) i x (fun e => zk_wrok E σ a e ∧ zk_run E (zk_VT E) M_X11_addWindow (C_X11_addWindow E) P PX K n 76 [l0, l1, l2, l3, l4, l5] r (zk_wr E σ a e, sz, k, c))) ∧
  (∀ (n : Nat) (l1 l2 l3 l4 l5 : Option Value) (y0 : Value) (r : List Value) (σ : zk_S) (sz k c : Nat), zk_run E (zk_VT E) M_X11_addWindow (C_X11_addWindow E) P PX K (n + 1) 76 [some y0, l1, l2, l3, l4, l5] r (σ, sz, k, c) = (zk_isr y0 ∧ zk_run E (zk_VT E) M_X11_addWindow (C_X11_addWindow E) P PX K n 77 [some y0, l1, l2, l3, l4, l5] (y0 :: r) (σ, sz, k, c))) ∧
  (∀ (n : Nat) (l0 l1 l2 l3 l4 l5 : Option Value) (a : Nat) (r : List Value) (σ : zk_S) (sz k c : Nat), zk_run E (zk_VT E) M_X11_addWindow (C_X11_addWindow E) P PX K (n + 1) 77 [l0, l1, l2, l3, l4, l5] (.ref a :: r) (σ, sz, k, c) = zk_fld (zk_view E σ a) [10] 19 (fun v => zk_run E (zk_VT E) M_X11_addWindow (C_X11_addWindow E) P PX K n 80 [l0, l1, l2, l3, l4, l5] (v :: r) (σ, sz, k, c))) ∧
  (∀ (n : Nat) (l1 l2 l3 l4 l5 : Option Value) (y0 : Value) (r : List Value) (σ : zk_S) (sz k c : Nat), zk_run E (zk_VT E) M_X11_addWindow (C_X11_addWindow E) P PX K (n + 1) 80 [some y0, l1, l2, l3, l4, l5] r (σ, sz, k, c) = (zk_isr y0 ∧ zk_run E (zk_VT E) M_X11_addWindow (C_X11_addWindow E) P PX K n 81 [some y0, l1, l2, l3, l4, l5] (y0 :: r) (σ, sz, k, c))) ∧
  (∀ (n : Nat) (l0 l1 l2 l3 l4 l5 : Option Value) (a : Nat) (r : List Value) (σ : zk_S) (sz k c : Nat), zk_run E (zk_VT E) M_X11_addWindow (C_X11_addWindow E) P PX K (n + 1) 81 [l0, l1, l2, l3, l4, l5] (.ref a :: r) (σ, sz, k, c) = zk_fld (zk_view E σ a) [10] 17 (fun v => zk_run E (zk_VT E) M_X11_addWindow (C_X11_addWindow E) P PX K n 84 [l0, l1, l2, l3, l4, l5] (v :: r) (σ, sz, k, c))) ∧
  (∀ (n : Nat) (l0 l1 l3 l4 l5 : Option Value) (y2 : Int32) (r : List Value) (σ : zk_S) (sz k c : Nat), zk_run E (zk_VT E) M_X11_addWindow (C_X11_addWindow E) P PX K (n + 1) 84 [l0, l1, some (.int y2), l3, l4, l5] r (σ, sz, k, c) = zk_run E (zk_VT E) M_X11_addWindow (C_X11_addWindow E) P PX K n 85 [l0, l1, some (.int y2), l3, l4, l5] (.int y2 :: r) (σ, sz, k, c)) ∧
  (∀ (n : Nat) (l0 l1 l2 l3 l4 l5 : Option Value) (a : Nat) (i x : Int32) (r : List Value) (σ : zk_S) (sz k c : Nat), zk_run E (zk_VT E) M_X11_addWindow (C_X11_addWindow E) P PX K (n + 1) 85 [l0, l1, l2, l3, l4, l5] (.int x :: .int i :: .ref a :: r) (σ, sz, k, c) = zk_ist (zk_view E σ a) (zk_ar E 0) i x (fun e => zk_wrok E σ a e ∧ zk_run E (zk_VT E) M_X11_addWindow (C_X11_addWindow E) P PX K n 86 [l0, l1, l2, l3, l4, l5] r (zk_wr E σ a e, sz, k, c))) ∧
  (∀ (n : Nat) (l1 l2 l3 l4 l5 : Option Value) (y0 : Value) (r : List Value) (σ : zk_S) (sz k c : Nat), zk_run E (zk_VT E) M_X11_addWindow (C_X11_addWindow E) P PX K (n + 1) 86 [some y0, l1, l2, l3, l4, l5] r (σ, sz, k, c) = (zk_isr y0 ∧ zk_run E (zk_VT E) M_X11_addWindow (C_X11_addWindow E) P PX K n 87 [some y0, l1, l2, l3, l4, l5] (y0 :: r) (σ, sz, k, c))) ∧
  (∀ (n : Nat) (l0 l1 l2 l3 l4 l5 : Option Value) (a : Nat) (r : List Value) (σ : zk_S) (sz k c : Nat), zk_run E (zk_VT E) M_X11_addWindow (C_X11_addWindow E) P PX K (n + 1) 87 [l0, l1, l2, l3, l4, l5] (.ref a :: r) (σ, sz, k, c) = zk_fld (zk_view E σ a) [10] 20 (fun v => zk_run E (zk_VT E) M_X11_addWindow (C_X11_addWindow E) P PX K n 90 [l0, l1, l2, l3, l4, l5] (v :: r) (σ, sz, k, c))) ∧
  (∀ (n : Nat) (l1 l2 l3 l4 l5 : Option Value) (y0 : Value) (r : List Value) (σ : zk_S) (sz k c : Nat), zk_run E (zk_VT E) M_X11_addWindow (C_X11_addWindow E) P PX K (n + 1) 90 [some y0, l1, l2, l3, l4, l5] r (σ, sz, k, c) = (zk_isr y0 ∧ zk_run E (zk_VT E) M_X11_addWindow (C_X11_addWindow E) P PX K n 91 [some y0, l1, l2, l3, l4, l5] (y0 :: r) (σ, sz, k, c))) ∧
  (∀ (n : Nat) (l0 l1 l2 l3 l4 l5 : Option Value) (a : Nat) (r : List Value) (σ : zk_S) (sz k c : Nat), zk_run E (zk_VT E) M_X11_addWindow (C_X11_addWindow E) P PX K (n + 1) 91 [l0, l1, l2, l3, l4, l5] (.ref a :: r) (σ, sz, k, c) = zk_fld (zk_view E σ a) [10] 17 (fun v => zk_run E (zk_VT E) M_X11_addWindow (C_X11_addWindow E) P PX K n 94 [l0, l1, l2, l3, l4, l5] (v :: r) (σ, sz, k, c))) ∧
  (∀ (n : Nat) (l0 l1 l2 l4 l5 : Option Value) (y3 : Int32) (r : List Value) (σ : zk_S) (sz k c : Nat), zk_run E (zk_VT E) M_X11_addWindow (C_X11_addWindow E) P PX K (n + 1) 94 [l0, l1, l2, some (.int y3), l4, l5] r (σ, sz, k, c) = zk_run E (zk_VT E) M_X11_addWindow (C_X11_addWindow E) P PX K n 95 [l0, l1, l2, some (.int y3), l4, l5] (.int y3 :: r) (σ, sz, k, c)) ∧
  (∀ (n : Nat) (l0 l1 l2 l3 l4 l5 : Option Value) (a : Nat) (i x : Int32) (r : List Value) (σ : zk_S) (sz k c : Nat), zk_run E (zk_VT E) M_X11_addWindow (C_X11_addWindow E) P PX K (n + 1) 95 [l0, l1, l2, l3, l4, l5] (.int x :: .int i :: .ref a :: r) (σ, sz, k, c) = zk_ist (zk_view E σ a) (zk_ar E 0) i x (fun e => zk_wrok E σ a e ∧ zk_run E (zk_VT E) M_X11_addWindow (C_X11_addWindow E) P PX K n 96 [l0, l1, l2, l3, l4, l5] r (zk_wr E σ a e, sz, k, c))) ∧
  (∀ (n : Nat) (l1 l2 l3 l4 l5 : Option Value) (y0 : Value) (r : List Value) (σ : zk_S) (sz k c : Nat), zk_run E (zk_VT E) M_X11_addWindow (C_X11_addWindow E) P PX K (n + 1) 96 [some y0, l1, l2, l3, l4, l5] r (σ, sz, k, c) = (zk_isr y0 ∧ zk_run E (zk_VT E) M_X11_addWindow (C_X11_addWindow E) P PX K n 97 [some y0, l1, l2, l3, l4, l5] (y0 :: r) (σ, sz, k, c))) ∧
  (∀ (n : Nat) (l0 l1 l2 l3 l4 l5 : Option Value) (a : Nat) (r : List Value) (σ : zk_S) (sz k c : Nat), zk_run E (zk_VT E) M_X11_addWindow (C_X11_addWindow E) P PX K (n + 1) 97 [l0, l1, l2, l3, l4, l5] (.ref a :: r) (σ, sz, k, c) = zk_fld (zk_view E σ a) [10] 22 (fun v => zk_run E (zk_VT E) M_X11_addWindow (C_X11_addWindow E) P PX K n 100 [l0, l1, l2, l3, l4, l5] (v :: r) (σ, sz, k, c))) ∧
  (∀ (n : Nat) (l1 l2 l3 l4 l5 : Option Value) (y0 : Value) (r : List Value) (σ : zk_S) (sz k c : Nat), zk_run E (zk_VT E) M_X11_addWindow (C_X11_addWindow E) P PX K (n + 1) 100 [some y0, l1, l2, l3, l4, l5] r (σ, sz, k, c) = (zk_isr y0 ∧ zk_run E (zk_VT E) M_X11_addWindow (C_X11_addWindow E) P PX K n 101 [some y0, l1, l2, l3, l4, l5] (y0 :: r) (σ, sz, k, c))) ∧
  (∀ (n : Nat) (l0 l1 l2 l3 l4 l5 : Option Value) (a : Nat) (r : List Value) (σ : zk_S) (sz k c : Nat), zk_run E (zk_VT E) M_X11_addWindow (C_X11_addWindow E) P PX K (n + 1) 101 [l0, l1, l2, l3, l4, l5] (.ref a :: r) (σ, sz, k, c) = zk_fld (zk_view E σ a) [10] 17 (fun v => zk_run E (zk_VT E) M_X11_addWindow (C_X11_addWindow E) P PX K n 104 [l0, l1, l2, l3, l4, l5] (v :: r) (σ, sz, k, c))) ∧
  (∀ (n : Nat) (l0 l1 l2 l3 l5 : Option Value) (y4 : Int32) (r : List Value) (σ : zk_S) (sz k c : Nat), zk_run E (zk_VT E) M_X11_addWindow (C_X11_addWindow E) P PX K (n + 1) 104 [l0, l1, l2, l3, some (.int y4), l5] r (σ, sz, k, c) = zk_run E (zk_VT E) M_X11_addWindow (C_X11_addWindow E) P PX K n 106 [l0, l1, l2, l3, some (.int y4), l5] (.int y4 :: r) (σ, sz, k, c)) ∧
  (∀ (n : Nat) (l0 l1 l2 l3 l4 l5 : Option Value) (a : Nat) (i x : Int32) (r : List Value) (σ : zk_S) (sz k c : Nat), zk_run E (zk_VT E) M_X11_addWindow (C_X11_addWindow E) P PX K (n + 1) 106 [l0, l1, l2, l3, l4, l5] (.int x :: .int i :: .ref a :: r) (σ, sz, k, c) = zk_ist (zk_view E σ a) (zk_ar E 1) i (vp_nar .boolean x) (fun e => zk_wrok E σ a e ∧ zk_run E (zk_VT E) M_X11_addWindow (C_X11_addWindow E) P PX K n 107 [l0, l1, l2, l3, l4, l5] r (zk_wr E σ a e, sz, k, c))) ∧
  (∀ (n : Nat) (l1 l2 l3 l4 l5 : Option Value) (y0 : Value) (r : List Value) (σ : zk_S) (sz k c : Nat), zk_run E (zk_VT E) M_X11_addWindow (C_X11_addWindow E) P PX K (n + 1) 107 [some y0, l1, l2, l3, l4, l5] r (σ, sz, k, c) = (zk_isr y0 ∧ zk_run E (zk_VT E) M_X11_addWindow (C_X11_addWindow E) P PX K n 108 [some y0, l1, l2, l3, l4, l5] (y0 :: r) (σ, sz, k, c))) ∧
  (∀ (n : Nat) (l0 l1 l2 l3 l4 l5 : Option Value) (a : Nat) (r : List Value) (σ : zk_S) (sz k c : Nat), zk_run E (zk_VT E) M_X11_addWindow (C_X11_addWindow E) P PX K (n + 1) 108 [l0, l1, l2, l3, l4, l5] (.ref a :: r) (σ, sz, k, c) = zk_fld (zk_view E σ a) [10] 21 (fun v => zk_run E (zk_VT E) M_X11_addWindow (C_X11_addWindow E) P PX K n 111 [l0, l1, l2, l3, l4, l5] (v :: r) (σ, sz, k, c))) ∧
  (∀ (n : Nat) (l1 l2 l3 l4 l5 : Option Value) (y0 : Value) (r : List Value) (σ : zk_S) (sz k c : Nat), zk_run E (zk_VT E) M_X11_addWindow (C_X11_addWindow E) P PX K (n + 1) 111 [some y0, l1, l2, l3, l4, l5] r (σ, sz, k, c) = (zk_isr y0 ∧ zk_run E (zk_VT E) M_X11_addWindow (C_X11_addWindow E) P PX K n 112 [some y0, l1, l2, l3, l4, l5] (y0 :: r) (σ, sz, k, c))) ∧
  (∀ (n : Nat) (l0 l1 l2 l3 l4 l5 : Option Value) (v : Value) (r : List Value) (σ : zk_S) (sz k c : Nat), zk_run E (zk_VT E) M_X11_addWindow (C_X11_addWindow E) P PX K (n + 1) 112 [l0, l1, l2, l3, l4, l5] (v :: r) (σ, sz, k, c) = (zk_c1 v ∧ zk_run E (zk_VT E) M_X11_addWindow (C_X11_addWindow E) P PX K n 113 [l0, l1, l2, l3, l4, l5] (v :: v :: r) (σ, sz, k, c))) ∧
  (∀ (n : Nat) (l0 l1 l2 l3 l4 l5 : Option Value) (a : Nat) (r : List Value) (σ : zk_S) (sz k c : Nat), zk_run E (zk_VT E) M_X11_addWindow (C_X11_addWindow E) P PX K (n + 1) 113 [l0, l1, l2, l3, l4, l5] (.ref a :: r) (σ, sz, k, c) = zk_fld (zk_view E σ a) [10] 17 (fun v => zk_run E (zk_VT E) M_X11_addWindow (C_X11_addWindow E) P PX K n 116 [l0, l1, l2, l3, l4, l5] (v :: r) (σ, sz, k, c))) ∧
  (∀ (n : Nat) (l0 l1 l2 l3 l4 l5 : Option Value) (v u : Value) (r : List Value) (σ : zk_S) (sz k c : Nat), zk_run E (zk_VT E) M_X11_addWindow (C_X11_addWindow E) P PX K (n + 1) 116 [l0, l1, l2, l3, l4, l5] (v :: u :: r) (σ, sz, k, c) = (zk_c1 v ∧ zk_c1 u ∧ zk_run E (zk_VT E) M_X11_addWindow (C_X11_addWindow E) P PX K n 117 [l0, l1, l2, l3, l4, l5] (v :: u :: v :: r) (σ, sz, k, c))) ∧
  (∀ (n : Nat) (l0 l1 l2 l3 l4 l5 : Option Value)  (r : List Value) (σ : zk_S) (sz k c : Nat), zk_run E (zk_VT E) M_X11_addWindow (C_X11_addWindow E) P PX K (n + 1) 117 [l0, l1, l2, l3, l4, l5] r (σ, sz, k, c) = zk_run E (zk_VT E) M_X11_addWindow (C_X11_addWindow E) P PX K n 118 [l0, l1, l2, l3, l4, l5] (.int (1) :: r) (σ, sz, k, c)) ∧
  (∀ (n : Nat) (l0 l1 l2 l3 l4 l5 : Option Value) (x y : Int32) (r : List Value) (σ : zk_S) (sz k c : Nat), zk_run E (zk_VT E) M_X11_addWindow (C_X11_addWindow E) P PX K (n + 1) 118 [l0, l1, l2, l3, l4, l5] (.int y :: .int x :: r) (σ, sz, k, c) = zk_run E (zk_VT E) M_X11_addWindow (C_X11_addWindow E) P PX K n 119 [l0, l1, l2, l3, l4, l5] (.int (x + y) :: r) (σ, sz, k, c)) ∧
  (∀ (n : Nat) (l0 l1 l2 l3 l4 l5 : Option Value) (a : Nat) (v : Value) (r : List Value) (σ : zk_S) (sz k c : Nat), zk_run E (zk_VT E) M_X11_addWindow (C_X11_addWindow E) P PX K (n + 1) 119 [l0, l1, l2, l3, l4, l5] (v :: .ref a :: r) (σ, sz, k, c) = zk_put (zk_view E σ a) [10] 17 0 v (zk_pfok E σ a 17 v ∧ zk_run E (zk_VT E) M_X11_addWindow (C_X11_addWindow E) P PX K n 122 [l0, l1, l2, l3, l4, l5] r (zk_pf E σ a 17 v, sz, k, c))) ∧
  (∀ (n : Nat) (l0 l1 l2 l3 l4 : Option Value) (y5 : Int32) (r : List Value) (σ : zk_S) (sz k c : Nat), zk_run E (zk_VT E) M_X11_addWindow (C_X11_addWindow E) P PX K (n + 1) 122 [l0, l1, l2, l3, l4, some (.int y5)] r (σ, sz, k, c) = zk_run E (zk_VT E) M_X11_addWindow (C_X11_addWindow E) P PX K n 124 [l0, l1, l2, l3, l4, some (.int y5)] (.int y5 :: r) (σ, sz, k, c)) ∧
  (∀ (n : Nat) (l0 l1 l2 l3 l4 l5 : Option Value) (a : Nat) (i x : Int32) (r : List Value) (σ : zk_S) (sz k c : Nat), zk_run E (zk_VT E) M_X11_addWindow (C_X11_addWindow E) P PX K (n + 1) 124 [l0, l1, l2, l3, l4, l5] (.int x :: .int i :: .ref a :: r) (σ, sz, k, c) = zk_ist (zk_view E σ a) (zk_ar E 0) i x (fun e => zk_wrok E σ a e ∧ zk_run E (zk_VT E) M_X11_addWindow (C_X11_addWindow E) P PX K n 125 [l0, l1, l2, l3, l4, l5] r (zk_wr E σ a e, sz, k, c))) ∧
  (∀ (n : Nat) (l1 l2 l3 l4 l5 : Option Value) (y0 : Value) (r : List Value) (σ : zk_S) (sz k c : Nat), zk_run E (zk_VT E) M_X11_addWindow (C_X11_addWindow E) P PX K (n + 1) 125 [some y0, l1, l2, l3, l4, l5] r (σ, sz, k, c) = (zk_isr y0 ∧ zk_run E (zk_VT E) M_X11_addWindow (C_X11_addWindow E) P PX K n 126 [some y0, l1, l2, l3, l4, l5] (y0 :: r) (σ, sz, k, c))) ∧
  (∀ (n : Nat) (l0 l2 l3 l4 l5 : Option Value) (y1 : Int32) (r : List Value) (σ : zk_S) (sz k c : Nat), zk_run E (zk_VT E) M_X11_addWindow (C_X11_addWindow E) P PX K (n + 1) 126 [l0, some (.int y1), l2, l3, l4, l5] r (σ, sz, k, c) = zk_run E (zk_VT E) M_X11_addWindow (C_X11_addWindow E) P PX K n 127 [l0, some (.int y1), l2, l3, l4, l5] (.int y1 :: r) (σ, sz, k, c)) ∧
  (∀ (n : Nat) (l0 l1 l2 l3 l4 l5 : Option Value) (v0 : Value) (v1 : Value)  (σ : zk_S) (sz k c : Nat), zk_run E (zk_VT E) M_X11_addWindow (C_X11_addWindow E) P PX K (n + 1) 127 [l0, l1, l2, l3, l4, l5] [v0, v1] (σ, sz, k, c) = (k + 0 ≤ 0 ∧ c + 0 ≤ 0 ∧ (zk_rv (zk_VT E) (fun ci => Nat.beq ci 10) (sp_X11_light E)) [v1, v0] σ sz (fun v s2 z2 => zk_run E (zk_VT E) M_X11_addWindow (C_X11_addWindow E) P PX K n 130 [l0, l1, l2, l3, l4, l5] (zk_psh v []) (s2, z2, k + 0, c + 0)) (fun X s2 z2 => PX X s2 z2))) ∧
  (∀ (n : Nat) (l0 l1 l2 l3 l4 l5 : Option Value) (x : Int32)  (σ : zk_S) (sz k c : Nat), zk_run E (zk_VT E) M_X11_addWindow (C_X11_addWindow E) P PX K (n + 1) 130 [l0, l1, l2, l3, l4, l5] [.int x] (σ, sz, k, c) = (zk_nok (some (.int)) x ∧ P (some (.int x)) σ sz ∧ k ≤ 0 ∧ c ≤ 0)) ∧
  (∀ (n : Nat) (l0 l1 l2 l3 l4 l5 : Option Value) (r : List Value) (w : zk_W zk_S), zk_go E (zk_VT E) M_X11_addWindow (C_X11_addWindow E) P PX K n 0 [l0, l1, l2, l3, l4, l5] r w = zk_run E (zk_VT E) M_X11_addWindow (C_X11_addWindow E) P PX K (n + 1) 0 [l0, l1, l2, l3, l4, l5] r w) := ⟨by intros; rfl, by intros; rfl, by intros; rfl, by intros; rfl, by intros; rfl, by intros; rfl, by intros; rfl, by intros; rfl, by intros; rfl, by intros; rfl, by intros; rfl, by intros; rfl, by intros; rfl, by intros; rfl, by intros; rfl, by intros; rfl, by intros; rfl, by intros; rfl, by intros; rfl, by intros; rfl, by intros; rfl, by intros; rfl, by intros; rfl, by intros; rfl, by intros; rfl, by intros; rfl, by intros; rfl, by intros; rfl, by intros; rfl, by intros; rfl, by intros; rfl, by intros; rfl, by intros; rfl, by intros; rfl, by intros; rfl, by intros; rfl, by intros; rfl⟩
theorem vc_X11_addWindow (E : zk_E) : zk_VC E (zk_VT E) M_X11_addWindow (C_X11_addWindow E) 6 (sp_X11_addWindow E) := by
  intro av σ sz P PX h
  obtain ⟨J, N, Q, O, U⟩ := σ
  unfold sp_X11_addWindow at h
  split at h
  case h_2 => exact h.elim
  rename_i a0 r x y up w
  obtain ⟨rfl, h⟩ := h
  refine ⟨Nat.le_of_ble_eq_true rfl, fun G hG => ?_⟩
  change G 0 [some (.ref (zk_ad E 22)), some (.int r), some (.int x), some (.int y), some (.int up), some (.int w)] [] ((J, N, Q, O, U), sz, 0, 0)
  try dsimp only at h
  obtain ⟨hmi, hup, h⟩ := h
  have hms := hmi.1
  have hms0 := hms.thr 0
  have hnw := hms.2.2.1.1
  have hnw40 := hms.2.2.1.2
  rcases h with ⟨j, hj, rfl, h1, h2⟩ | ⟨hr, h⟩
  · have c1 := m_isRoom_t hms hj
    have hj20 := hj.lt hmi
    have inj : vp_in (nI j) 20 := n_in hj20 (by decide)
    have clj := RD.lt hmi hj
    have hxj : ∃ j', MR (zk_uj J 22 0 0) N j' ∧ nI j = nI j' := ⟨j, hj, rfl⟩
    have hmi0 := hmi.thr 0
    have ecb : m_canBe (zk_uj J 22 0 0) N j (-1) x y up w = m_canBe J N j (-1) x y up w := rfl
    have hnu : vp_nar .boolean up = up := by rcases hup with rfl | rfl <;> decide
    cases qw : m_isIn w 1 6 with
    | false =>
      unfold c_win at h1
      rw [if_pos qw] at h1
      have n2 := h1 (by decide) _ _ _ _ (QE.thr J N 2) (fun _ _ => rfl) (Nat.le_refl _)
      (refine hG 900 _ _ _ _ ?_; simp only [r_X11_addWindow, r_X11_addWindow_1, zk_kl_none, zk_kl_int, zk_kl_ref, zk_kl_null, zk_kl_long, zk_kl_rf, zk_isr_ref, zk_isr_null, zk_isr_rf9, zk_c1_int, zk_c1_ref, zk_c1_null, zk_c1_rf, zk_psh_some, zk_psh_none, zk_nok_int, zk_nok_bool0, zk_nok_bool1, zk_nok_b, zk_fok_0, zk_fok_1, zk_fok_2, zk_fok_n, zk_fok_rf, zb_f, zb_p, zb_i, zb_a, zb_s, zk_nth_0, zk_nth_s, zk_fld_o, zk_put_o, zk_rv_eq, zk_ri_eq, zk_is_o, List.mem_cons, List.not_mem_nil, or_false, false_or, or_true, true_or, and_true, true_and, not_false_iff, not_true_eq_false, true_implies, false_implies, imp_self, implies_true, forall_const, zk_lit, zk_uj_ap, zk_un_ap, zk_un_un, zk_uj_uj, Nat.reduceEqDiff, eq_self, zk_bq, Bool.true_or, Bool.false_or, Nat.le_refl, Nat.zero_add, Nat.add_zero, Nat.reduceAdd, Nat.reduceLeDiff, Nat.le_zero_eq, and_self, and_false, false_and, ite_true, ite_false, Nat.zero_le, List.length_cons, List.length_nil, Option.some.injEq, forall_eq', reduceCtorEq, spe_X11_isRoom, hms0, m_isRoom_thr, c1, zk_b0, Bool.true_eq_false, spe_X11_isIn, qw, spe_X11_no])
      exact n2
    | true =>
      have wf : ¬ m_isIn w 1 6 = false := by rw [qw]; decide
      by_cases n40 : m_nw J = 40
      · have w5 : J 22 17 = 40 := by rw [hnw, n40]; rfl
        unfold c_win at h1
        rw [if_neg wf, if_pos (Or.inl n40)] at h1
        have n3 := h1 (by decide) _ _ _ _ (QE.thr J N 3) (fun _ _ => rfl) (Nat.le_refl _)
        (refine hG 900 _ _ _ _ ?_; simp only [r_X11_addWindow, r_X11_addWindow_1, zk_kl_none, zk_kl_int, zk_kl_ref, zk_kl_null, zk_kl_long, zk_kl_rf, zk_isr_ref, zk_isr_null, zk_isr_rf9, zk_c1_int, zk_c1_ref, zk_c1_null, zk_c1_rf, zk_psh_some, zk_psh_none, zk_nok_int, zk_nok_bool0, zk_nok_bool1, zk_nok_b, zk_fok_0, zk_fok_1, zk_fok_2, zk_fok_n, zk_fok_rf, zb_f, zb_p, zb_i, zb_a, zb_s, zk_nth_0, zk_nth_s, zk_fld_o, zk_put_o, zk_rv_eq, zk_ri_eq, zk_is_o, List.mem_cons, List.not_mem_nil, or_false, false_or, or_true, true_or, and_true, true_and, not_false_iff, not_true_eq_false, true_implies, false_implies, imp_self, implies_true, forall_const, zk_lit, zk_uj_ap, zk_un_ap, zk_un_un, zk_uj_uj, Nat.reduceEqDiff, eq_self, zk_bq, Bool.true_or, Bool.false_or, Nat.le_refl, Nat.zero_add, Nat.add_zero, Nat.reduceAdd, Nat.reduceLeDiff, Nat.le_zero_eq, and_self, and_false, false_and, ite_true, ite_false, Nat.zero_le, List.length_cons, List.length_nil, Option.some.injEq, forall_eq', reduceCtorEq, spe_X11_isRoom, hms0, m_isRoom_thr, c1, zk_b0, Bool.true_eq_false, spe_X11_isIn, qw, w5, spe_X11_no])
        exact n3
      · have w5 : ¬ nI (m_nw J) = 40 := by rw [show (40 : Int32) = nI 40 from rfl, n_inj (by omega) (by decide)]; exact n40
        have ind : vp_in (nI (m_nw J)) 40 := n_in (by omega) (by decide)
        have cld : (nI (m_nw J)).toNatClampNeg = m_nw J := n_cl (by omega)
        cases cb : m_canBe J N j (-1) x y up w with
        | false =>
          unfold c_win at h1
          rw [if_neg wf, if_pos (Or.inr cb)] at h1
          have n3 := h1 (by decide) _ _ _ _ (QE.thr J N 3) (fun _ _ => rfl) (Nat.le_refl _)
          (refine hG 900 _ _ _ _ ?_; simp only [r_X11_addWindow, r_X11_addWindow_1, zk_kl_none, zk_kl_int, zk_kl_ref, zk_kl_null, zk_kl_long, zk_kl_rf, zk_isr_ref, zk_isr_null, zk_isr_rf9, zk_c1_int, zk_c1_ref, zk_c1_null, zk_c1_rf, zk_psh_some, zk_psh_none, zk_nok_int, zk_nok_bool0, zk_nok_bool1, zk_nok_b, zk_fok_0, zk_fok_1, zk_fok_2, zk_fok_n, zk_fok_rf, zb_f, zb_p, zb_i, zb_a, zb_s, zk_nth_0, zk_nth_s, zk_fld_o, zk_put_o, zk_rv_eq, zk_ri_eq, zk_is_o, List.mem_cons, List.not_mem_nil, or_false, false_or, or_true, true_or, and_true, true_and, not_false_iff, not_true_eq_false, true_implies, false_implies, imp_self, implies_true, forall_const, zk_lit, zk_uj_ap, zk_un_ap, zk_un_un, zk_uj_uj, Nat.reduceEqDiff, eq_self, zk_bq, Bool.true_or, Bool.false_or, Nat.le_refl, Nat.zero_add, Nat.add_zero, Nat.reduceAdd, Nat.reduceLeDiff, Nat.le_zero_eq, and_self, and_false, false_and, ite_true, ite_false, Nat.zero_le, List.length_cons, List.length_nil, Option.some.injEq, forall_eq', reduceCtorEq, spe_X11_isRoom, hms0, m_isRoom_thr, c1, zk_b0, Bool.true_eq_false, spe_X11_isIn, qw, hnw, w5, spe_X11_canBe, hmi0, hxj, clj, ecb, cb, spe_X11_no])
          exact n3
        | true =>
          have c0 : c_win J N j x y up w = 0 := by unfold c_win; rw [if_neg wf, if_neg (by rw [cb]; simp [n40])]
          have n3 := h2 c0
          have hm2 := (hmi.win hj hup c0).1
          have es : ES (uJ_win J) (uJ_win (zk_uj J 22 0 0)) (uN_win N (m_nw J) (nI j) x y up w) (uN_win N (m_nw J) (nI j) x y up w) := ⟨rfl, rfl, rfl, rfl, fun _ _ _ => rfl⟩
          have hm3 := es.ms hm2.1
          have el := es.light
          rw [← el] at n3
          unfold uN_win at n3
          rw [show uJ_win (zk_uj J 22 0 0) = zk_uj (zk_uj J 22 0 0) 22 17 (J 22 17 + 1) from rfl, hnw] at n3 hm3
          (refine hG 900 _ _ _ _ ?_; simp only [r_X11_addWindow, r_X11_addWindow_1, zk_kl_none, zk_kl_int, zk_kl_ref, zk_kl_null, zk_kl_long, zk_kl_rf, zk_isr_ref, zk_isr_null, zk_isr_rf9, zk_c1_int, zk_c1_ref, zk_c1_null, zk_c1_rf, zk_psh_some, zk_psh_none, zk_nok_int, zk_nok_bool0, zk_nok_bool1, zk_nok_b, zk_fok_0, zk_fok_1, zk_fok_2, zk_fok_n, zk_fok_rf, zb_f, zb_p, zb_i, zb_a, zb_s, zk_nth_0, zk_nth_s, zk_fld_o, zk_put_o, zk_rv_eq, zk_ri_eq, zk_is_o, List.mem_cons, List.not_mem_nil, or_false, false_or, or_true, true_or, and_true, true_and, not_false_iff, not_true_eq_false, true_implies, false_implies, imp_self, implies_true, forall_const, zk_lit, zk_uj_ap, zk_un_ap, zk_un_un, zk_uj_uj, Nat.reduceEqDiff, eq_self, zk_bq, Bool.true_or, Bool.false_or, Nat.le_refl, Nat.zero_add, Nat.add_zero, Nat.reduceAdd, Nat.reduceLeDiff, Nat.le_zero_eq, and_self, and_false, false_and, ite_true, ite_false, Nat.zero_le, List.length_cons, List.length_nil, Option.some.injEq, forall_eq', reduceCtorEq, spe_X11_isRoom, hms0, m_isRoom_thr, c1, zk_b0, Bool.true_eq_false, spe_X11_isIn, qw, hnw, w5, spe_X11_canBe, hmi0, hxj, clj, ecb, cb, ind, cld, hnu, spe_X11_light, hm3])
          exact n3
  · (refine hG 900 _ _ _ _ ?_; simp only [r_X11_addWindow, r_X11_addWindow_1, zk_kl_none, zk_kl_int, zk_kl_ref, zk_kl_null, zk_kl_long, zk_kl_rf, zk_isr_ref, zk_isr_null, zk_isr_rf9, zk_c1_int, zk_c1_ref, zk_c1_null, zk_c1_rf, zk_psh_some, zk_psh_none, zk_nok_int, zk_nok_bool0, zk_nok_bool1, zk_nok_b, zk_fok_0, zk_fok_1, zk_fok_2, zk_fok_n, zk_fok_rf, zb_f, zb_p, zb_i, zb_a, zb_s, zk_nth_0, zk_nth_s, zk_fld_o, zk_put_o, zk_rv_eq, zk_ri_eq, zk_is_o, List.mem_cons, List.not_mem_nil, or_false, false_or, or_true, true_or, and_true, true_and, not_false_iff, not_true_eq_false, true_implies, false_implies, imp_self, implies_true, forall_const, zk_lit, zk_uj_ap, zk_un_ap, zk_un_un, zk_uj_uj, Nat.reduceEqDiff, eq_self, zk_bq, Bool.true_or, Bool.false_or, Nat.le_refl, Nat.zero_add, Nat.add_zero, Nat.reduceAdd, Nat.reduceLeDiff, Nat.le_zero_eq, and_self, and_false, false_and, ite_true, ite_false, Nat.zero_le, List.length_cons, List.length_nil, Option.some.injEq, forall_eq', reduceCtorEq, spe_X11_isRoom, hms0, m_isRoom_thr, hr, zk_b0, spe_X11_no])
    exact h _ _ _ _ (QE.thr J N 1) (fun _ _ => rfl) (Nat.le_refl _)
theorem ct_X11_addWindow {l : Launch} (hl : l.stackTraces = false) (E : zk_E) : zk_C l E (zk_VT E) yX11_addWindow cX11_addWindow 6 (some (.int)) rm_X11_addWindow (sp_X11_addWindow E) := by
  refine zk_meth (M := M_X11_addWindow) (C := C_X11_addWindow E) hl (by decide +kernel) rfl (fun _ _ => rfl) (zk_VT_ok E) MO_X11_addWindow TO_X11_addWindow THo_X11_addWindow ?_ (vc_X11_addWindow E)
  exact fun p e s m args below meth c X pc n mc ms sp2 h => by
    have h2 := zk_lka_mem h
    simp only [List.mem_cons, List.not_mem_nil, or_false, Prod.mk.injEq] at h2
    rcases h2 with ⟨rfl, rfl, rfl, rfl, rfl⟩ | ⟨rfl, rfl, rfl, rfl, rfl⟩ | ⟨rfl, rfl, rfl, rfl, rfl⟩ | ⟨rfl, rfl, rfl, rfl, rfl⟩ | ⟨rfl, rfl, rfl, rfl, rfl⟩ | ⟨rfl, rfl, rfl, rfl, rfl⟩ | ⟨rfl, rfl, rfl, rfl, rfl⟩
    · exact zk_coV (idx := 137) X (ct_X11_isRoom hl E) (List.forall_mem_cons.mpr ⟨zk_wi 1122 (by decide +kernel) rfl, List.forall_mem_cons.mpr ⟨zk_wi 1124 (by decide +kernel) rfl, List.forall_mem_cons.mpr ⟨zk_wp 13 (by decide +kernel) rfl, List.forall_mem_cons.mpr ⟨zk_wi 6 (by decide +kernel) rfl, List.forall_mem_cons.mpr ⟨zk_wi 1125 (by decide +kernel) rfl, fun _ h => absurd h List.not_mem_nil⟩⟩⟩⟩⟩) (fun ci h => by
      have h := Nat.eq_of_beq_eq_true h
      subst h
      exact ⟨_, _, rfl⟩) (by decide +kernel) ⟨by decide, by decide, by decide +kernel⟩ ⟨by decide, by decide⟩
    · exact zk_coV (idx := 130) X (ct_X11_no hl E) (List.forall_mem_cons.mpr ⟨zk_wi 1108 (by decide +kernel) rfl, List.forall_mem_cons.mpr ⟨zk_wi 1110 (by decide +kernel) rfl, List.forall_mem_cons.mpr ⟨zk_wp 11 (by decide +kernel) rfl, List.forall_mem_cons.mpr ⟨zk_wi 6 (by decide +kernel) rfl, List.forall_mem_cons.mpr ⟨zk_wi 1111 (by decide +kernel) rfl, fun _ h => absurd h List.not_mem_nil⟩⟩⟩⟩⟩) (fun ci h => by
      have h := Nat.eq_of_beq_eq_true h
      subst h
      exact ⟨_, _, rfl⟩) (by decide +kernel) ⟨by decide, by decide, by decide +kernel⟩ ⟨by decide, by decide⟩
    · exact zk_coS (idx := 111) X (ct_X11_isIn hl E) (List.forall_mem_cons.mpr ⟨zk_wi 1105 (by decide +kernel) rfl, List.forall_mem_cons.mpr ⟨zk_wi 1106 (by decide +kernel) rfl, List.forall_mem_cons.mpr ⟨zk_wi 6 (by decide +kernel) rfl, List.forall_mem_cons.mpr ⟨zk_wi 1107 (by decide +kernel) rfl, fun _ h => absurd h List.not_mem_nil⟩⟩⟩⟩) (by decide +kernel) ⟨by decide, by decide, by decide +kernel⟩ ⟨by decide, by decide⟩
    · exact zk_coV (idx := 130) X (ct_X11_no hl E) (List.forall_mem_cons.mpr ⟨zk_wi 1108 (by decide +kernel) rfl, List.forall_mem_cons.mpr ⟨zk_wi 1110 (by decide +kernel) rfl, List.forall_mem_cons.mpr ⟨zk_wp 11 (by decide +kernel) rfl, List.forall_mem_cons.mpr ⟨zk_wi 6 (by decide +kernel) rfl, List.forall_mem_cons.mpr ⟨zk_wi 1111 (by decide +kernel) rfl, fun _ h => absurd h List.not_mem_nil⟩⟩⟩⟩⟩) (fun ci h => by
      have h := Nat.eq_of_beq_eq_true h
      subst h
      exact ⟨_, _, rfl⟩) (by decide +kernel) ⟨by decide, by decide, by decide +kernel⟩ ⟨by decide, by decide⟩
    · exact zk_coV (idx := 157) X (ct_X11_canBe hl E) (List.forall_mem_cons.mpr ⟨zk_wi 1134 (by decide +kernel) rfl, List.forall_mem_cons.mpr ⟨zk_wi 1136 (by decide +kernel) rfl, List.forall_mem_cons.mpr ⟨zk_wp 14 (by decide +kernel) rfl, List.forall_mem_cons.mpr ⟨zk_wi 6 (by decide +kernel) rfl, List.forall_mem_cons.mpr ⟨zk_wi 1137 (by decide +kernel) rfl, fun _ h => absurd h List.not_mem_nil⟩⟩⟩⟩⟩) (fun ci h => by
      have h := Nat.eq_of_beq_eq_true h
      subst h
      exact ⟨_, _, rfl⟩) (by decide +kernel) ⟨by decide, by decide, by decide +kernel⟩ ⟨by decide, by decide⟩
    · exact zk_coV (idx := 130) X (ct_X11_no hl E) (List.forall_mem_cons.mpr ⟨zk_wi 1108 (by decide +kernel) rfl, List.forall_mem_cons.mpr ⟨zk_wi 1110 (by decide +kernel) rfl, List.forall_mem_cons.mpr ⟨zk_wp 11 (by decide +kernel) rfl, List.forall_mem_cons.mpr ⟨zk_wi 6 (by decide +kernel) rfl, List.forall_mem_cons.mpr ⟨zk_wi 1111 (by decide +kernel) rfl, fun _ h => absurd h List.not_mem_nil⟩⟩⟩⟩⟩) (fun ci h => by
      have h := Nat.eq_of_beq_eq_true h
      subst h
      exact ⟨_, _, rfl⟩) (by decide +kernel) ⟨by decide, by decide, by decide +kernel⟩ ⟨by decide, by decide⟩
    · exact zk_coV (idx := 161) X (ct_X11_light hl E) (List.forall_mem_cons.mpr ⟨zk_wi 1155 (by decide +kernel) rfl, List.forall_mem_cons.mpr ⟨zk_wi 1157 (by decide +kernel) rfl, List.forall_mem_cons.mpr ⟨zk_wp 16 (by decide +kernel) rfl, List.forall_mem_cons.mpr ⟨zk_wi 6 (by decide +kernel) rfl, List.forall_mem_cons.mpr ⟨zk_wi 1158 (by decide +kernel) rfl, fun _ h => absurd h List.not_mem_nil⟩⟩⟩⟩⟩) (fun ci h => by
      have h := Nat.eq_of_beq_eq_true h
      subst h
      exact ⟨_, _, rfl⟩) (by decide +kernel) ⟨by decide, by decide, by decide +kernel⟩ ⟨by decide, by decide⟩

