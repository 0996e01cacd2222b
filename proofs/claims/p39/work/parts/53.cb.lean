/-! the class: pieces, exits -/
def m_onl (p r : Option va_E) : Bool := decide (fI r 1 = fI p 0) && (decide (fI p 2 = p_line (fI p 1) (fI r 2) (fI r 3)) || decide (fI p 2 = p_line (fI p 1) (fI r 2) (fI r 3) + p_line (fI p 1) (fI r 4) (fI r 5)))
def sp_X4_isOnLineOf (E : zk_E) : zk_Sp zk_S := fun av σ sz P PX => match av with
  | [.ref a, .ref b] => E.1 + 28 ≤ a ∧ isP (σ.2.2.2.1 a) ∧ E.1 + 28 ≤ b ∧ isR (σ.2.2.2.1 b) ∧ P (some (.int (zk_b (m_onl (σ.2.2.2.1 a) (σ.2.2.2.1 b))))) σ sz
  | _ => False
theorem spe_X4_isOnLineOf (E : zk_E) (a : Nat) (b : Nat) (σ : zk_S) (sz : Nat) (P : zk_P zk_S) (PX : zk_X zk_S) : sp_X4_isOnLineOf E [.ref a, .ref b] σ sz P PX = (E.1 + 28 ≤ a ∧ isP (σ.2.2.2.1 a) ∧ E.1 + 28 ≤ b ∧ isR (σ.2.2.2.1 b) ∧ P (some (.int (zk_b (m_onl (σ.2.2.2.1 a) (σ.2.2.2.1 b))))) σ sz) := propext Iff.rfl
def C_X4_isOnLineOf (E : zk_E) : zk_Cl zk_S := zk_lka [(20, 2, 0, 0, zk_rv (zk_VT E) (fun ci => Nat.beq ci 5) (sp_X6_lowest E)), (35, 2, 0, 0, zk_rv (zk_VT E) (fun ci => Nat.beq ci 5) (sp_X6_highest E))]
theorem r_X4_isOnLineOf (E : zk_E) (P : zk_P zk_S) (PX : zk_X zk_S) (K : Nat → zk_L → List Value → zk_W zk_S → Prop) : (∀ (n : Nat) (l0 : Option Value) (y1 : Value) (r : List Value) (σ : zk_S) (sz k c : Nat), zk_run E (zk_VT E) M_X4_isOnLineOf (C_X4_isOnLineOf E) P PX K (n + 1) 0 [l0, some y1] r (σ, sz, k, c) = (zk_isr y1 ∧ zk_run E (zk_VT E) M_X4_isOnLineOf (C_X4_isOnLineOf E) P PX K n 1 [l0, some y1] (y1 :: r) (σ, sz, k, c))) ∧
  (∀ (n : Nat) (l0 l1 : Option Value) (a : Nat) (r : List Value) (σ : zk_S) (sz k c : Nat), zk_run E (zk_VT E) M_X4_isOnLineOf (C_X4_isOnLineOf E) P PX K (n + 1) 1 [l0, l1] (.ref a :: r) (σ, sz, k, c) = zk_fld (zk_view E σ a) [5] 1 (fun v => zk_run E (zk_VT E) M_X4_isOnLineOf (C_X4_isOnLineOf E) P PX K n 4 [l0, l1] (v :: r) (σ, sz, k, c))) ∧
  (∀ (n : Nat) (l1 : Option Value) (y0 : Value) (r : List Value) (σ : zk_S) (sz k c : Nat), zk_run E (zk_VT E) M_X4_isOnLineOf (C_X4_isOnLineOf E) P PX K (n + 1) 4 [some y0, l1] r (σ, sz, k, c) = (zk_isr y0 ∧ zk_run E (zk_VT E) M_X4_isOnLineOf (C_X4_isOnLineOf E) P PX K n 5 [some y0, l1] (y0 :: r) (σ, sz, k, c))) ∧
  (∀ (n : Nat) (l0 l1 : Option Value) (a : Nat) (r : List Value) (σ : zk_S) (sz k c : Nat), zk_run E (zk_VT E) M_X4_isOnLineOf (C_X4_isOnLineOf E) P PX K (n + 1) 5 [l0, l1] (.ref a :: r) (σ, sz, k, c) = zk_fld (zk_view E σ a) [3] 0 (fun v => zk_run E (zk_VT E) M_X4_isOnLineOf (C_X4_isOnLineOf E) P PX K n 8 [l0, l1] (v :: r) (σ, sz, k, c))) ∧
  (∀ (n : Nat) (l0 l1 : Option Value) (x y : Int32) (r : List Value) (σ : zk_S) (sz k c : Nat), zk_run E (zk_VT E) M_X4_isOnLineOf (C_X4_isOnLineOf E) P PX K (n + 1) 8 [l0, l1] (.int y :: .int x :: r) (σ, sz, k, c) = ((¬ x = y → zk_run E (zk_VT E) M_X4_isOnLineOf (C_X4_isOnLineOf E) P PX K n 45 [l0, l1] r (σ, sz, k, c)) ∧ (¬ (¬ x = y) → zk_run E (zk_VT E) M_X4_isOnLineOf (C_X4_isOnLineOf E) P PX K n 11 [l0, l1] r (σ, sz, k, c)))) ∧
  (∀ (n : Nat) (l1 : Option Value) (y0 : Value) (r : List Value) (σ : zk_S) (sz k c : Nat), zk_run E (zk_VT E) M_X4_isOnLineOf (C_X4_isOnLineOf E) P PX K (n + 1) 11 [some y0, l1] r (σ, sz, k, c) = (zk_isr y0 ∧ zk_run E (zk_VT E) M_X4_isOnLineOf (C_X4_isOnLineOf E) P PX K n 12 [some y0, l1] (y0 :: r) (σ, sz, k, c))) ∧
  (∀ (n : Nat) (l0 l1 : Option Value) (a : Nat) (r : List Value) (σ : zk_S) (sz k c : Nat), zk_run E (zk_VT E) M_X4_isOnLineOf (C_X4_isOnLineOf E) P PX K (n + 1) 12 [l0, l1] (.ref a :: r) (σ, sz, k, c) = zk_fld (zk_view E σ a) [3] 2 (fun v => zk_run E (zk_VT E) M_X4_isOnLineOf (C_X4_isOnLineOf E) P PX K n 15 [l0, l1] (v :: r) (σ, sz, k, c))) ∧
  (∀ (n : Nat) (l0 : Option Value) (y1 : Value) (r : List Value) (σ : zk_S) (sz k c : Nat), zk_run E (zk_VT E) M_X4_isOnLineOf (C_X4_isOnLineOf E) P PX K (n + 1) 15 [l0, some y1] r (σ, sz, k, c) = (zk_isr y1 ∧ zk_run E (zk_VT E) M_X4_isOnLineOf (C_X4_isOnLineOf E) P PX K n 16 [l0, some y1] (y1 :: r) (σ, sz, k, c))) ∧
  (∀ (n : Nat) (l1 : Option Value) (y0 : Value) (r : List Value) (σ : zk_S) (sz k c : Nat), zk_run E (zk_VT E) M_X4_isOnLineOf (C_X4_isOnLineOf E) P PX K (n + 1) 16 [some y0, l1] r (σ, sz, k, c) = (zk_isr y0 ∧ zk_run E (zk_VT E) M_X4_isOnLineOf (C_X4_isOnLineOf E) P PX K n 17 [some y0, l1] (y0 :: r) (σ, sz, k, c))) ∧
  (∀ (n : Nat) (l0 l1 : Option Value) (a : Nat) (r : List Value) (σ : zk_S) (sz k c : Nat), zk_run E (zk_VT E) M_X4_isOnLineOf (C_X4_isOnLineOf E) P PX K (n + 1) 17 [l0, l1] (.ref a :: r) (σ, sz, k, c) = zk_fld (zk_view E σ a) [3] 1 (fun v => zk_run E (zk_VT E) M_X4_isOnLineOf (C_X4_isOnLineOf E) P PX K n 20 [l0, l1] (v :: r) (σ, sz, k, c))) ∧
  (∀ (n : Nat) (l0 l1 : Option Value) (v0 : Value) (v1 : Value) (v2 : Value)  (σ : zk_S) (sz k c : Nat), zk_run E (zk_VT E) M_X4_isOnLineOf (C_X4_isOnLineOf E) P PX K (n + 1) 20 [l0, l1] [v0, v1, v2] (σ, sz, k, c) = (k + 0 ≤ 0 ∧ c + 0 ≤ 0 ∧ (zk_rv (zk_VT E) (fun ci => Nat.beq ci 5) (sp_X6_lowest E)) [v1, v0] σ sz (fun v s2 z2 => zk_run E (zk_VT E) M_X4_isOnLineOf (C_X4_isOnLineOf E) P PX K n 23 [l0, l1] (zk_psh v [v2]) (s2, z2, k + 0, c + 0)) (fun X s2 z2 => PX X s2 z2))) ∧
  (∀ (n : Nat) (l0 l1 : Option Value) (x y : Int32) (r : List Value) (σ : zk_S) (sz k c : Nat), zk_run E (zk_VT E) M_X4_isOnLineOf (C_X4_isOnLineOf E) P PX K (n + 1) 23 [l0, l1] (.int y :: .int x :: r) (σ, sz, k, c) = ((x = y → zk_run E (zk_VT E) M_X4_isOnLineOf (C_X4_isOnLineOf E) P PX K n 41 [l0, l1] r (σ, sz, k, c)) ∧ (¬ (x = y) → zk_run E (zk_VT E) M_X4_isOnLineOf (C_X4_isOnLineOf E) P PX K n 26 [l0, l1] r (σ, sz, k, c)))) ∧
  (∀ (n : Nat) (l1 : Option Value) (y0 : Value) (r : List Value) (σ : zk_S) (sz k c : Nat), zk_run E (zk_VT E) M_X4_isOnLineOf (C_X4_isOnLineOf E) P PX K (n + 1) 26 [some y0, l1] r (σ, sz, k, c) = (zk_isr y0 ∧ zk_run E (zk_VT E) M_X4_isOnLineOf (C_X4_isOnLineOf E) P PX K n 27 [some y0, l1] (y0 :: r) (σ, sz, k, c))) ∧
  (∀ (n : Nat) (l0 l1 : Option Value) (a : Nat) (r : List Value) (σ : zk_S) (sz k c : Nat), zk_run E (zk_VT E) M_X4_isOnLineOf (C_X4_isOnLineOf E) P PX K (n + 1) 27 [l0, l1] (.ref a :: r) (σ, sz, k, c) = zk_fld (zk_view E σ a) [3] 2 (fun v => zk_run E (zk_VT E) M_X4_isOnLineOf (C_X4_isOnLineOf E) P PX K n 30 [l0, l1] (v :: r) (σ, sz, k, c))) ∧
  (∀ (n : Nat) (l0 : Option Value) (y1 : Value) (r : List Value) (σ : zk_S) (sz k c : Nat), zk_run E (zk_VT E) M_X4_isOnLineOf (C_X4_isOnLineOf E) P PX K (n + 1) 30 [l0, some y1] r (σ, sz, k, c) = (zk_isr y1 ∧ zk_run E (zk_VT E) M_X4_isOnLineOf (C_X4_isOnLineOf E) P PX K n 31 [l0, some y1] (y1 :: r) (σ, sz, k, c))) ∧
  (∀ (n : Nat) (l1 : Option Value) (y0 : Value) (r : List Value) (σ : zk_S) (sz k c : Nat), zk_run E (zk_VT E) M_X4_isOnLineOf (C_X4_isOnLineOf E) P PX K (n + 1) 31 [some y0, l1] r (σ, sz, k, c) = (zk_isr y0 ∧ zk_run E (zk_VT E) M_X4_isOnLineOf (C_X4_isOnLineOf E) P PX K n 32 [some y0, l1] (y0 :: r) (σ, sz, k, c))) ∧
  (∀ (n : Nat) (l0 l1 : Option Value) (a : Nat) (r : List Value) (σ : zk_S) (sz k c : Nat), zk_run E (zk_VT E) M_X4_isOnLineOf (C_X4_isOnLineOf E) P PX K (n + 1) 32 [l0, l1] (.ref a :: r) (σ, sz, k, c) = zk_fld (zk_view E σ a) [3] 1 (fun v => zk_run E (zk_VT E) M_X4_isOnLineOf (C_X4_isOnLineOf E) P PX K n 35 [l0, l1] (v :: r) (σ, sz, k, c))) ∧
  (∀ (n : Nat) (l0 l1 : Option Value) (v0 : Value) (v1 : Value) (v2 : Value)  (σ : zk_S) (sz k c : Nat), zk_run E (zk_VT E) M_X4_isOnLineOf (C_X4_isOnLineOf E) P PX K (n + 1) 35 [l0, l1] [v0, v1, v2] (σ, sz, k, c) = (k + 0 ≤ 0 ∧ c + 0 ≤ 0 ∧ (zk_rv (zk_VT E) (fun ci => Nat.beq ci 5) (sp_X6_highest E)) [v1, v0] σ sz (fun v s2 z2 => zk_run E (zk_VT E) M_X4_isOnLineOf (C_X4_isOnLineOf E) P PX K n 38 [l0, l1] (zk_psh v [v2]) (s2, z2, k + 0, c + 0)) (fun X s2 z2 => PX X s2 z2))) ∧
  (∀ (n : Nat) (l0 l1 : Option Value) (x y : Int32) (r : List Value) (σ : zk_S) (sz k c : Nat), zk_run E (zk_VT E) M_X4_isOnLineOf (C_X4_isOnLineOf E) P PX K (n + 1) 38 [l0, l1] (.int y :: .int x :: r) (σ, sz, k, c) = ((¬ x = y → zk_run E (zk_VT E) M_X4_isOnLineOf (C_X4_isOnLineOf E) P PX K n 45 [l0, l1] r (σ, sz, k, c)) ∧ (¬ (¬ x = y) → zk_run E (zk_VT E) M_X4_isOnLineOf (C_X4_isOnLineOf E) P PX K n 41 [l0, l1] r (σ, sz, k, c)))) ∧
  (∀ (n : Nat) (l0 l1 : Option Value)  (r : List Value) (σ : zk_S) (sz k c : Nat), zk_run E (zk_VT E) M_X4_isOnLineOf (C_X4_isOnLineOf E) P PX K (n + 1) 41 [l0, l1] r (σ, sz, k, c) = zk_run E (zk_VT E) M_X4_isOnLineOf (C_X4_isOnLineOf E) P PX K n 42 [l0, l1] (.int (1) :: r) (σ, sz, k, c)) ∧
  (∀ (n : Nat) (l0 l1 : Option Value)  (r : List Value) (σ : zk_S) (sz k c : Nat), zk_run E (zk_VT E) M_X4_isOnLineOf (C_X4_isOnLineOf E) P PX K (n + 1) 42 [l0, l1] r (σ, sz, k, c) = zk_run E (zk_VT E) M_X4_isOnLineOf (C_X4_isOnLineOf E) P PX K n 46 [l0, l1] r (σ, sz, k, c)) ∧
  (∀ (n : Nat) (l0 l1 : Option Value)  (r : List Value) (σ : zk_S) (sz k c : Nat), zk_run E (zk_VT E) M_X4_isOnLineOf (C_X4_isOnLineOf E) P PX K (n + 1) 45 [l0, l1] r (σ, sz, k, c) = zk_run E (zk_VT E) M_X4_isOnLineOf (C_X4_isOnLineOf E) P PX K n 46 [l0, l1] (.int (0) :: r) (σ, sz, k, c)) ∧
  (∀ (n : Nat) (l0 l1 : Option Value) (x : Int32)  (σ : zk_S) (sz k c : Nat), zk_run E (zk_VT E) M_X4_isOnLineOf (C_X4_isOnLineOf E) P PX K (n + 1) 46 [l0, l1] [.int x] (σ, sz, k, c) = (zk_nok (some (.boolean)) x ∧ P (some (.int x)) σ sz ∧ k ≤ 0 ∧ c ≤ 0)) ∧
  (∀ (n : Nat) (l0 l1 : Option Value) (r : List Value) (w : zk_W zk_S), zk_go E (zk_VT E) M_X4_isOnLineOf (C_X4_isOnLineOf E) P PX K n 0 [l0, l1] r w = zk_run E (zk_VT E) M_X4_isOnLineOf (C_X4_isOnLineOf E) P PX K (n + 1) 0 [l0, l1] r w) := ⟨by intros; rfl, by intros; rfl, by intros; rfl, by intros; rfl, by intros; rfl, by intros; rfl, by intros; rfl, by intros; rfl, by intros; rfl, by intros; rfl, by intros; rfl, by intros; rfl, by intros; rfl, by intros; rfl, by intros; rfl, by intros; rfl, by intros; rfl, by intros; rfl, by intros; rfl, by intros; rfl, by intros; rfl, by intros; rfl, by intros; rfl, by intros; rfl⟩
theorem vc_X4_isOnLineOf (E : zk_E) : zk_VC E (zk_VT E) M_X4_isOnLineOf (C_X4_isOnLineOf E) 2 (sp_X4_isOnLineOf E) := by
  intro av σ sz P PX h
  obtain ⟨J, N, Q, O, U⟩ := σ
  unfold sp_X4_isOnLineOf at h
  split at h
  case h_2 => exact h.elim
  rename_i a b
  refine ⟨Nat.le_of_ble_eq_true rfl, fun G hG => ?_⟩
  change G 0 [some (.ref (a)), some (.ref b)] [] ((J, N, Q, O, U), sz, 0, 0)
  try dsimp only at h
  obtain ⟨ha, ⟨p0, p1, p2, p3, p4, hO⟩, hb, hR, h⟩ := h
  obtain ⟨s0, s1, x, y, w, hh, s6, s7, hO2⟩ := id hR
  have c5 : zk_is (some (cR s0 s1 x y w hh s6 s7)) (fun ci => Nat.beq ci 5) = True := eq_true rfl
  rw [hO, hO2] at h
  unfold m_onl at h
  simp only [fI_R, fI_P] at h
  have hO3 := hO2
  have hO4 := hO
  unfold cR at hO2
  unfold cP at hO
  have hi5 : ∀ k, zk_is (O b) k = (k 5 = true) := fun k => by rw [hO2]; rfl
  have fl : fI (O b) 2 = x ∧ fI (O b) 3 = y ∧ fI (O b) 4 = w ∧ fI (O b) 5 = hh := by rw [hO3]; exact ⟨rfl, rfl, rfl, rfl⟩
  have gf : ∀ k (F : Value → Prop), zk_fld (O b) [5] k F = zk_nth [.int s0, .int s1, .int x, .int y, .int w, .int hh, .int s6, .int s7] k F := fun k F => by rw [hO2]; simp [zk_fld_o]
  by_cases q1 : s1 = p0
  · rw [decide_eq_true q1, Bool.true_and] at h
    rcases (Decidable.em (p2 = p_line p1 x y)).imp eq_true eq_false with q2 | q2
    · simp only [q2, decide_true, Bool.true_or] at h
      (refine hG 900 _ _ _ _ ?_; simp only [r_X4_isOnLineOf, zk_vd ha, zk_vd hb, hO, gf, hi5, q1, spe_X6_lowest, spe_X6_highest, hb, hR, fl, q2])
      exact h
    · simp only [q2, decide_false, Bool.false_or] at h
      rcases (Decidable.em (p2 = p_line p1 x y + p_line p1 w hh)).imp eq_true eq_false with q3 | q3
      · simp only [q3, decide_true] at h
        (refine hG 900 _ _ _ _ ?_; simp only [r_X4_isOnLineOf, zk_vd ha, zk_vd hb, hO, gf, hi5, q1, spe_X6_lowest, spe_X6_highest, hb, hR, fl, q2, q3])
        exact h
      · simp only [q3, decide_false] at h
        (refine hG 900 _ _ _ _ ?_; simp only [r_X4_isOnLineOf, zk_vd ha, zk_vd hb, hO, gf, hi5, q1, spe_X6_lowest, spe_X6_highest, hb, hR, fl, q2, q3])
        exact h
  · rw [decide_eq_false q1, Bool.false_and] at h
    (refine hG 900 _ _ _ _ ?_; simp only [r_X4_isOnLineOf, zk_vd ha, zk_vd hb, hO, gf, hi5, q1])
    exact h
theorem ct_X4_isOnLineOf {l : Launch} (hl : l.stackTraces = false) (E : zk_E) : zk_C l E (zk_VT E) yX4_isOnLineOf cX4_isOnLineOf 2 (some (.boolean)) rm_X4_isOnLineOf (sp_X4_isOnLineOf E) := by
  refine zk_meth (M := M_X4_isOnLineOf) (C := C_X4_isOnLineOf E) hl (by decide +kernel) rfl (fun _ _ => rfl) (zk_VT_ok E) MO_X4_isOnLineOf TO_X4_isOnLineOf THo_X4_isOnLineOf ?_ (vc_X4_isOnLineOf E)
  exact fun p e s m args below meth c X pc n mc ms sp2 h => by
    have h2 := zk_lka_mem h
    simp only [List.mem_cons, List.not_mem_nil, or_false, Prod.mk.injEq] at h2
    rcases h2 with ⟨rfl, rfl, rfl, rfl, rfl⟩ | ⟨rfl, rfl, rfl, rfl, rfl⟩
    · exact zk_coV (idx := 29) X (ct_X6_lowest hl E) (List.forall_mem_cons.mpr ⟨zk_wi 805 (by decide +kernel) rfl, List.forall_mem_cons.mpr ⟨zk_wi 806 (by decide +kernel) rfl, List.forall_mem_cons.mpr ⟨zk_wi 807 (by decide +kernel) rfl, List.forall_mem_cons.mpr ⟨zk_wi 12 (by decide +kernel) rfl, List.forall_mem_cons.mpr ⟨zk_wi 808 (by decide +kernel) rfl, fun _ h => absurd h List.not_mem_nil⟩⟩⟩⟩⟩) (fun ci h => by
      have h := Nat.eq_of_beq_eq_true h
      subst h
      exact ⟨_, _, rfl⟩) (by decide +kernel) ⟨by decide, by decide, by decide +kernel⟩ ⟨by decide, by decide⟩
    · exact zk_coV (idx := 33) X (ct_X6_highest hl E) (List.forall_mem_cons.mpr ⟨zk_wi 809 (by decide +kernel) rfl, List.forall_mem_cons.mpr ⟨zk_wi 810 (by decide +kernel) rfl, List.forall_mem_cons.mpr ⟨zk_wi 811 (by decide +kernel) rfl, List.forall_mem_cons.mpr ⟨zk_wi 12 (by decide +kernel) rfl, List.forall_mem_cons.mpr ⟨zk_wi 812 (by decide +kernel) rfl, fun _ h => absurd h List.not_mem_nil⟩⟩⟩⟩⟩) (fun ci h => by
      have h := Nat.eq_of_beq_eq_true h
      subst h
      exact ⟨_, _, rfl⟩) (by decide +kernel) ⟨by decide, by decide, by decide +kernel⟩ ⟨by decide, by decide⟩
def u_fl (x : Int32) : Int32 := if x = 0 then 1 else 0
theorem u_fl_line (u x y : Int32) : p_line (u_fl u) x y = p_start u x y := by
  unfold p_line p_start u_fl
  by_cases h : u = 0 <;> simp [h]
def m_ons (p r : Option va_E) : Bool := m_onl p r && (decide (p_start (fI p 1) (fI r 2) (fI r 3) ≤ fI p 3) && decide (fI p 3 ≤ p_start (fI p 1) (fI r 2) (fI r 3) + p_start (fI p 1) (fI r 4) (fI r 5) - fI p 4))
def m_tos (p r : Option va_E) : Bool := m_onl p r && (decide (fI p 3 < p_start (fI p 1) (fI r 2) (fI r 3) + p_start (fI p 1) (fI r 4) (fI r 5)) && decide (p_start (fI p 1) (fI r 2) (fI r 3) < fI p 3 + fI p 4))
def sp_X4_isOnSideOf (E : zk_E) : zk_Sp zk_S := fun av σ sz P PX => match av with
  | [.ref a, .ref b] => E.1 + 28 ≤ a ∧ isP (σ.2.2.2.1 a) ∧ E.1 + 28 ≤ b ∧ isR (σ.2.2.2.1 b) ∧ P (some (.int (zk_b (m_ons (σ.2.2.2.1 a) (σ.2.2.2.1 b))))) σ sz
  | _ => False
theorem spe_X4_isOnSideOf (E : zk_E) (a : Nat) (b : Nat) (σ : zk_S) (sz : Nat) (P : zk_P zk_S) (PX : zk_X zk_S) : sp_X4_isOnSideOf E [.ref a, .ref b] σ sz P PX = (E.1 + 28 ≤ a ∧ isP (σ.2.2.2.1 a) ∧ E.1 + 28 ≤ b ∧ isR (σ.2.2.2.1 b) ∧ P (some (.int (zk_b (m_ons (σ.2.2.2.1 a) (σ.2.2.2.1 b))))) σ sz) := propext Iff.rfl
def C_X4_isOnSideOf (E : zk_E) : zk_Cl zk_S := zk_lka [(2, 2, 0, 0, zk_rv (zk_VT E) (fun ci => Nat.beq ci 3) (sp_X4_isOnLineOf E)), (25, 2, 0, 0, zk_rv (zk_VT E) (fun ci => Nat.beq ci 5) (sp_X6_lowest E)), (48, 2, 0, 0, zk_rv (zk_VT E) (fun ci => Nat.beq ci 5) (sp_X6_highest E))]
theorem r_X4_isOnSideOf (E : zk_E) (P : zk_P zk_S) (PX : zk_X zk_S) (K : Nat → zk_L → List Value → zk_W zk_S → Prop) : (∀ (n : Nat) (l1 : Option Value) (y0 : Value) (r : List Value) (σ : zk_S) (sz k c : Nat), zk_run E (zk_VT E) M_X4_isOnSideOf (C_X4_isOnSideOf E) P PX K (n + 1) 0 [some y0, l1] r (σ, sz, k, c) = (zk_isr y0 ∧ zk_run E (zk_VT E) M_X4_isOnSideOf (C_X4_isOnSideOf E) P PX K n 1 [some y0, l1] (y0 :: r) (σ, sz, k, c))) ∧
  (∀ (n : Nat) (l0 : Option Value) (y1 : Value) (r : List Value) (σ : zk_S) (sz k c : Nat), zk_run E (zk_VT E) M_X4_isOnSideOf (C_X4_isOnSideOf E) P PX K (n + 1) 1 [l0, some y1] r (σ, sz, k, c) = (zk_isr y1 ∧ zk_run E (zk_VT E) M_X4_isOnSideOf (C_X4_isOnSideOf E) P PX K n 2 [l0, some y1] (y1 :: r) (σ, sz, k, c))) ∧
  (∀ (n : Nat) (l0 l1 : Option Value) (v0 : Value) (v1 : Value)  (σ : zk_S) (sz k c : Nat), zk_run E (zk_VT E) M_X4_isOnSideOf (C_X4_isOnSideOf E) P PX K (n + 1) 2 [l0, l1] [v0, v1] (σ, sz, k, c) = (k + 0 ≤ 0 ∧ c + 0 ≤ 0 ∧ (zk_rv (zk_VT E) (fun ci => Nat.beq ci 3) (sp_X4_isOnLineOf E)) [v1, v0] σ sz (fun v s2 z2 => zk_run E (zk_VT E) M_X4_isOnSideOf (C_X4_isOnSideOf E) P PX K n 5 [l0, l1] (zk_psh v []) (s2, z2, k + 0, c + 0)) (fun X s2 z2 => PX X s2 z2))) ∧
  (∀ (n : Nat) (l0 l1 : Option Value) (x : Int32) (r : List Value) (σ : zk_S) (sz k c : Nat), zk_run E (zk_VT E) M_X4_isOnSideOf (C_X4_isOnSideOf E) P PX K (n + 1) 5 [l0, l1] (.int x :: r) (σ, sz, k, c) = ((x = 0 → zk_run E (zk_VT E) M_X4_isOnSideOf (C_X4_isOnSideOf E) P PX K n 63 [l0, l1] r (σ, sz, k, c)) ∧ (¬ (x = 0) → zk_run E (zk_VT E) M_X4_isOnSideOf (C_X4_isOnSideOf E) P PX K n 8 [l0, l1] r (σ, sz, k, c)))) ∧
  (∀ (n : Nat) (l1 : Option Value) (y0 : Value) (r : List Value) (σ : zk_S) (sz k c : Nat), zk_run E (zk_VT E) M_X4_isOnSideOf (C_X4_isOnSideOf E) P PX K (n + 1) 8 [some y0, l1] r (σ, sz, k, c) = (zk_isr y0 ∧ zk_run E (zk_VT E) M_X4_isOnSideOf (C_X4_isOnSideOf E) P PX K n 9 [some y0, l1] (y0 :: r) (σ, sz, k, c))) ∧
  (∀ (n : Nat) (l0 l1 : Option Value) (a : Nat) (r : List Value) (σ : zk_S) (sz k c : Nat), zk_run E (zk_VT E) M_X4_isOnSideOf (C_X4_isOnSideOf E) P PX K (n + 1) 9 [l0, l1] (.ref a :: r) (σ, sz, k, c) = zk_fld (zk_view E σ a) [3] 3 (fun v => zk_run E (zk_VT E) M_X4_isOnSideOf (C_X4_isOnSideOf E) P PX K n 12 [l0, l1] (v :: r) (σ, sz, k, c))) ∧
  (∀ (n : Nat) (l0 : Option Value) (y1 : Value) (r : List Value) (σ : zk_S) (sz k c : Nat), zk_run E (zk_VT E) M_X4_isOnSideOf (C_X4_isOnSideOf E) P PX K (n + 1) 12 [l0, some y1] r (σ, sz, k, c) = (zk_isr y1 ∧ zk_run E (zk_VT E) M_X4_isOnSideOf (C_X4_isOnSideOf E) P PX K n 13 [l0, some y1] (y1 :: r) (σ, sz, k, c))) ∧
  (∀ (n : Nat) (l1 : Option Value) (y0 : Value) (r : List Value) (σ : zk_S) (sz k c : Nat), zk_run E (zk_VT E) M_X4_isOnSideOf (C_X4_isOnSideOf E) P PX K (n + 1) 13 [some y0, l1] r (σ, sz, k, c) = (zk_isr y0 ∧ zk_run E (zk_VT E) M_X4_isOnSideOf (C_X4_isOnSideOf E) P PX K n 14 [some y0, l1] (y0 :: r) (σ, sz, k, c))) ∧
  (∀ (n : Nat) (l0 l1 : Option Value) (a : Nat) (r : List Value) (σ : zk_S) (sz k c : Nat), zk_run E (zk_VT E) M_X4_isOnSideOf (C_X4_isOnSideOf E) P PX K (n + 1) 14 [l0, l1] (.ref a :: r) (σ, sz, k, c) = zk_fld (zk_view E σ a) [3] 1 (fun v => zk_run E (zk_VT E) M_X4_isOnSideOf (C_X4_isOnSideOf E) P PX K n 17 [l0, l1] (v :: r) (σ, sz, k, c))) ∧
  (∀ (n : Nat) (l0 l1 : Option Value) (x : Int32) (r : List Value) (σ : zk_S) (sz k c : Nat), zk_run E (zk_VT E) M_X4_isOnSideOf (C_X4_isOnSideOf E) P PX K (n + 1) 17 [l0, l1] (.int x :: r) (σ, sz, k, c) = ((¬ x = 0 → zk_run E (zk_VT E) M_X4_isOnSideOf (C_X4_isOnSideOf E) P PX K n 24 [l0, l1] r (σ, sz, k, c)) ∧ (¬ (¬ x = 0) → zk_run E (zk_VT E) M_X4_isOnSideOf (C_X4_isOnSideOf E) P PX K n 20 [l0, l1] r (σ, sz, k, c)))) ∧
  (∀ (n : Nat) (l0 l1 : Option Value)  (r : List Value) (σ : zk_S) (sz k c : Nat), zk_run E (zk_VT E) M_X4_isOnSideOf (C_X4_isOnSideOf E) P PX K (n + 1) 20 [l0, l1] r (σ, sz, k, c) = zk_run E (zk_VT E) M_X4_isOnSideOf (C_X4_isOnSideOf E) P PX K n 21 [l0, l1] (.int (1) :: r) (σ, sz, k, c)) ∧
  (∀ (n : Nat) (l0 l1 : Option Value)  (r : List Value) (σ : zk_S) (sz k c : Nat), zk_run E (zk_VT E) M_X4_isOnSideOf (C_X4_isOnSideOf E) P PX K (n + 1) 21 [l0, l1] r (σ, sz, k, c) = zk_run E (zk_VT E) M_X4_isOnSideOf (C_X4_isOnSideOf E) P PX K n 25 [l0, l1] r (σ, sz, k, c)) ∧
  (∀ (n : Nat) (l0 l1 : Option Value)  (r : List Value) (σ : zk_S) (sz k c : Nat), zk_run E (zk_VT E) M_X4_isOnSideOf (C_X4_isOnSideOf E) P PX K (n + 1) 24 [l0, l1] r (σ, sz, k, c) = zk_run E (zk_VT E) M_X4_isOnSideOf (C_X4_isOnSideOf E) P PX K n 25 [l0, l1] (.int (0) :: r) (σ, sz, k, c)) ∧
  (∀ (n : Nat) (l0 l1 : Option Value) (v0 : Value) (v1 : Value) (v2 : Value)  (σ : zk_S) (sz k c : Nat), zk_run E (zk_VT E) M_X4_isOnSideOf (C_X4_isOnSideOf E) P PX K (n + 1) 25 [l0, l1] [v0, v1, v2] (σ, sz, k, c) = (k + 0 ≤ 0 ∧ c + 0 ≤ 0 ∧ (zk_rv (zk_VT E) (fun ci => Nat.beq ci 5) (sp_X6_lowest E)) [v1, v0] σ sz (fun v s2 z2 => zk_run E (zk_VT E) M_X4_isOnSideOf (C_X4_isOnSideOf E) P PX K n 28 [l0, l1] (zk_psh v [v2]) (s2, z2, k + 0, c + 0)) (fun X s2 z2 => PX X s2 z2))) ∧
  (∀ (n : Nat) (l0 l1 : Option Value) (x y : Int32) (r : List Value) (σ : zk_S) (sz k c : Nat), zk_run E (zk_VT E) M_X4_isOnSideOf (C_X4_isOnSideOf E) P PX K (n + 1) 28 [l0, l1] (.int y :: .int x :: r) (σ, sz, k, c) = ((x < y → zk_run E (zk_VT E) M_X4_isOnSideOf (C_X4_isOnSideOf E) P PX K n 63 [l0, l1] r (σ, sz, k, c)) ∧ (¬ (x < y) → zk_run E (zk_VT E) M_X4_isOnSideOf (C_X4_isOnSideOf E) P PX K n 31 [l0, l1] r (σ, sz, k, c)))) ∧
  (∀ (n : Nat) (l1 : Option Value) (y0 : Value) (r : List Value) (σ : zk_S) (sz k c : Nat), zk_run E (zk_VT E) M_X4_isOnSideOf (C_X4_isOnSideOf E) P PX K (n + 1) 31 [some y0, l1] r (σ, sz, k, c) = (zk_isr y0 ∧ zk_run E (zk_VT E) M_X4_isOnSideOf (C_X4_isOnSideOf E) P PX K n 32 [some y0, l1] (y0 :: r) (σ, sz, k, c))) ∧
  (∀ (n : Nat) (l0 l1 : Option Value) (a : Nat) (r : List Value) (σ : zk_S) (sz k c : Nat), zk_run E (zk_VT E) M_X4_isOnSideOf (C_X4_isOnSideOf E) P PX K (n + 1) 32 [l0, l1] (.ref a :: r) (σ, sz, k, c) = zk_fld (zk_view E σ a) [3] 3 (fun v => zk_run E (zk_VT E) M_X4_isOnSideOf (C_X4_isOnSideOf E) P PX K n 35 [l0, l1] (v :: r) (σ, sz, k, c))) ∧
  (∀ (n : Nat) (l0 : Option Value) (y1 : Value) (r : List Value) (σ : zk_S) (sz k c : Nat), zk_run E (zk_VT E) M_X4_isOnSideOf (C_X4_isOnSideOf E) P PX K (n + 1) 35 [l0, some y1] r (σ, sz, k, c) = (zk_isr y1 ∧ zk_run E (zk_VT E) M_X4_isOnSideOf (C_X4_isOnSideOf E) P PX K n 36 [l0, some y1] (y1 :: r) (σ, sz, k, c))) ∧
  (∀ (n : Nat) (l1 : Option Value) (y0 : Value) (r : List Value) (σ : zk_S) (sz k c : Nat), zk_run E (zk_VT E) M_X4_isOnSideOf (C_X4_isOnSideOf E) P PX K (n + 1) 36 [some y0, l1] r (σ, sz, k, c) = (zk_isr y0 ∧ zk_run E (zk_VT E) M_X4_isOnSideOf (C_X4_isOnSideOf E) P PX K n 37 [some y0, l1] (y0 :: r) (σ, sz, k, c))) ∧
  (∀ (n : Nat) (l0 l1 : Option Value) (a : Nat) (r : List Value) (σ : zk_S) (sz k c : Nat), zk_run E (zk_VT E) M_X4_isOnSideOf (C_X4_isOnSideOf E) P PX K (n + 1) 37 [l0, l1] (.ref a :: r) (σ, sz, k, c) = zk_fld (zk_view E σ a) [3] 1 (fun v => zk_run E (zk_VT E) M_X4_isOnSideOf (C_X4_isOnSideOf E) P PX K n 40 [l0, l1] (v :: r) (σ, sz, k, c))) ∧
  (∀ (n : Nat) (l0 l1 : Option Value) (x : Int32) (r : List Value) (σ : zk_S) (sz k c : Nat), zk_run E (zk_VT E) M_X4_isOnSideOf (C_X4_isOnSideOf E) P PX K (n + 1) 40 [l0, l1] (.int x :: r) (σ, sz, k, c) = ((¬ x = 0 → zk_run E (zk_VT E) M_X4_isOnSideOf (C_X4_isOnSideOf E) P PX K n 47 [l0, l1] r (σ, sz, k, c)) ∧ (¬ (¬ x = 0) → zk_run E (zk_VT E) M_X4_isOnSideOf (C_X4_isOnSideOf E) P PX K n 43 [l0, l1] r (σ, sz, k, c)))) ∧
  (∀ (n : Nat) (l0 l1 : Option Value)  (r : List Value) (σ : zk_S) (sz k c : Nat), zk_run E (zk_VT E) M_X4_isOnSideOf (C_X4_isOnSideOf E) P PX K (n + 1) 43 [l0, l1] r (σ, sz, k, c) = zk_run E (zk_VT E) M_X4_isOnSideOf (C_X4_isOnSideOf E) P PX K n 44 [l0, l1] (.int (1) :: r) (σ, sz, k, c)) ∧
  (∀ (n : Nat) (l0 l1 : Option Value)  (r : List Value) (σ : zk_S) (sz k c : Nat), zk_run E (zk_VT E) M_X4_isOnSideOf (C_X4_isOnSideOf E) P PX K (n + 1) 44 [l0, l1] r (σ, sz, k, c) = zk_run E (zk_VT E) M_X4_isOnSideOf (C_X4_isOnSideOf E) P PX K n 48 [l0, l1] r (σ, sz, k, c)) ∧
  (∀ (n : Nat) (l0 l1 : Option Value)  (r : List Value) (σ : zk_S) (sz k c : Nat), zk_run E (zk_VT E) M_X4_isOnSideOf (C_X4_isOnSideOf E) P PX K (n + 1) 47 [l0, l1] r (σ, sz, k, c) = zk_run E (zk_VT E) M_X4_isOnSideOf (C_X4_isOnSideOf E) P PX K n 48 [l0, l1] (.int (0) :: r) (σ, sz, k, c)) ∧
  (∀ (n : Nat) (l0 l1 : Option Value) (v0 : Value) (v1 : Value) (v2 : Value)  (σ : zk_S) (sz k c : Nat), zk_run E (zk_VT E) M_X4_isOnSideOf (C_X4_isOnSideOf E) P PX K (n + 1) 48 [l0, l1] [v0, v1, v2] (σ, sz, k, c) = (k + 0 ≤ 0 ∧ c + 0 ≤ 0 ∧ (zk_rv (zk_VT E) (fun ci => Nat.beq ci 5) (sp_X6_highest E)) [v1, v0] σ sz (fun v s2 z2 => zk_run E (zk_VT E) M_X4_isOnSideOf (C_X4_isOnSideOf E) P PX K n 51 [l0, l1] (zk_psh v [v2]) (s2, z2, k + 0, c + 0)) (fun X s2 z2 => PX X s2 z2))) ∧
  (∀ (n : Nat) (l1 : Option Value) (y0 : Value) (r : List Value) (σ : zk_S) (sz k c : Nat), zk_run E (zk_VT E) M_X4_isOnSideOf (C_X4_isOnSideOf E) P PX K (n + 1) 51 [some y0, l1] r (σ, sz, k, c) = (zk_isr y0 ∧ zk_run E (zk_VT E) M_X4_isOnSideOf (C_X4_isOnSideOf E) P PX K n 52 [some y0, l1] (y0 :: r) (σ, sz, k, c))) ∧
  (∀ (n : Nat) (l0 l1 : Option Value) (a : Nat) (r : List Value) (σ : zk_S) (sz k c : Nat), zk_run E (zk_VT E) M_X4_isOnSideOf (C_X4_isOnSideOf E) P PX K (n + 1) 52 [l0, l1] (.ref a :: r) (σ, sz, k, c) = zk_fld (zk_view E σ a) [3] 4 (fun v => zk_run E (zk_VT E) M_X4_isOnSideOf (C_X4_isOnSideOf E) P PX K n 55 [l0, l1] (v :: r) (σ, sz, k, c))) ∧
  (∀ (n : Nat) (l0 l1 : Option Value) (x y : Int32) (r : List Value) (σ : zk_S) (sz k c : Nat), zk_run E (zk_VT E) M_X4_isOnSideOf (C_X4_isOnSideOf E) P PX K (n + 1) 55 [l0, l1] (.int y :: .int x :: r) (σ, sz, k, c) = zk_run E (zk_VT E) M_X4_isOnSideOf (C_X4_isOnSideOf E) P PX K n 56 [l0, l1] (.int (x - y) :: r) (σ, sz, k, c)) ∧
  (∀ (n : Nat) (l0 l1 : Option Value) (x y : Int32) (r : List Value) (σ : zk_S) (sz k c : Nat), zk_run E (zk_VT E) M_X4_isOnSideOf (C_X4_isOnSideOf E) P PX K (n + 1) 56 [l0, l1] (.int y :: .int x :: r) (σ, sz, k, c) = ((y < x → zk_run E (zk_VT E) M_X4_isOnSideOf (C_X4_isOnSideOf E) P PX K n 63 [l0, l1] r (σ, sz, k, c)) ∧ (¬ (y < x) → zk_run E (zk_VT E) M_X4_isOnSideOf (C_X4_isOnSideOf E) P PX K n 59 [l0, l1] r (σ, sz, k, c)))) ∧
  (∀ (n : Nat) (l0 l1 : Option Value)  (r : List Value) (σ : zk_S) (sz k c : Nat), zk_run E (zk_VT E) M_X4_isOnSideOf (C_X4_isOnSideOf E) P PX K (n + 1) 59 [l0, l1] r (σ, sz, k, c) = zk_run E (zk_VT E) M_X4_isOnSideOf (C_X4_isOnSideOf E) P PX K n 60 [l0, l1] (.int (1) :: r) (σ, sz, k, c)) ∧
  (∀ (n : Nat) (l0 l1 : Option Value)  (r : List Value) (σ : zk_S) (sz k c : Nat), zk_run E (zk_VT E) M_X4_isOnSideOf (C_X4_isOnSideOf E) P PX K (n + 1) 60 [l0, l1] r (σ, sz, k, c) = zk_run E (zk_VT E) M_X4_isOnSideOf (C_X4_isOnSideOf E) P PX K n 64 [l0, l1] r (σ, sz, k, c)) ∧
  (∀ (n : Nat) (l0 l1 : Option Value)  (r : List Value) (σ : zk_S) (sz k c : Nat), zk_run E (zk_VT E) M_X4_isOnSideOf (C_X4_isOnSideOf E) P PX K (n + 1) 63 [l0, l1] r (σ, sz, k, c) = zk_run E (zk_VT E) M_X4_isOnSideOf (C_X4_isOnSideOf E) P PX K n 64 [l0, l1] (.int (0) :: r) (σ, sz, k, c)) ∧
  (∀ (n : Nat) (l0 l1 : Option Value) (x : Int32)  (σ : zk_S) (sz k c : Nat), zk_run E (zk_VT E) M_X4_isOnSideOf (C_X4_isOnSideOf E) P PX K (n + 1) 64 [l0, l1] [.int x] (σ, sz, k, c) = (zk_nok (some (.boolean)) x ∧ P (some (.int x)) σ sz ∧ k ≤ 0 ∧ c ≤ 0)) ∧
  (∀ (n : Nat) (l0 l1 : Option Value) (r : List Value) (w : zk_W zk_S), zk_go E (zk_VT E) M_X4_isOnSideOf (C_X4_isOnSideOf E) P PX K n 0 [l0, l1] r w = zk_run E (zk_VT E) M_X4_isOnSideOf (C_X4_isOnSideOf E) P PX K (n + 1) 0 [l0, l1] r w) := ⟨by intros; rfl, by intros; rfl, by intros; rfl, by intros; rfl, by intros; rfl, by intros; rfl, by intros; rfl, by intros; rfl, by intros; rfl, by intros; rfl, by intros; rfl, by intros; rfl, by intros; rfl, by intros; rfl, by intros; rfl, by intros; rfl, by intros; rfl, by intros; rfl, by intros; rfl, by intros; rfl, by intros; rfl, by intros; rfl, by intros; rfl, by intros; rfl, by intros; rfl, by intros; rfl, by intros; rfl, by intros; rfl, by intros; rfl, by intros; rfl, by intros; rfl, by intros; rfl, by intros; rfl, by intros; rfl⟩
theorem vc_X4_isOnSideOf (E : zk_E) : zk_VC E (zk_VT E) M_X4_isOnSideOf (C_X4_isOnSideOf E) 2 (sp_X4_isOnSideOf E) := by
  intro av σ sz P PX h
  obtain ⟨J, N, Q, O, U⟩ := σ
  unfold sp_X4_isOnSideOf at h
  split at h
  case h_2 => exact h.elim
  rename_i a b
  refine ⟨Nat.le_of_ble_eq_true rfl, fun G hG => ?_⟩
  change G 0 [some (.ref (a)), some (.ref b)] [] ((J, N, Q, O, U), sz, 0, 0)
  try dsimp only at h
  obtain ⟨ha, hP, hb, hR, h⟩ := h
  obtain ⟨p0, p1, p2, p3, p4, hO⟩ := id hP
  obtain ⟨s0, s1, x, y, w, hh, s6, s7, hO2⟩ := id hR
  unfold m_ons at h
  cases q0 : m_onl (O a) (O b) with
  | false =>
    rw [q0, Bool.false_and] at h
    have hi3 : ∀ k, zk_is (O a) k = (k 3 = true) := fun k => by rw [hO]; rfl
    (refine hG 900 _ _ _ _ ?_; simp only [r_X4_isOnSideOf, zk_vd ha, hi3, spe_X4_isOnLineOf, ha, hP, hb, hR, q0, zk_b0])
    exact h
  | true =>
    rw [q0, Bool.true_and] at h
    have hi3 : ∀ k, zk_is (O a) k = (k 3 = true) := fun k => by rw [hO]; rfl
    have hi5 : ∀ k, zk_is (O b) k = (k 5 = true) := fun k => by rw [hO2]; rfl
    have gp : ∀ k (F : Value → Prop), zk_fld (O a) [3] k F = zk_nth [.int p0, .int p1, .int p2, .int p3, .int p4] k F := fun k F => by rw [hO]; simp [zk_fld_o, cP]
    have fp : fI (O a) 1 = p1 ∧ fI (O a) 3 = p3 ∧ fI (O a) 4 = p4 := by rw [hO]; exact ⟨rfl, rfl, rfl⟩
    have fl : fI (O b) 2 = x ∧ fI (O b) 3 = y ∧ fI (O b) 4 = w ∧ fI (O b) 5 = hh := by rw [hO2]; exact ⟨rfl, rfl, rfl, rfl⟩
    rw [fp.1, fp.2.1, fp.2.2, fl.1, fl.2.1, fl.2.2.1, fl.2.2.2, ← u_fl_line, ← u_fl_line] at h
    unfold u_fl at h
    by_cases u0 : p1 = 0
    · rw [if_pos u0] at h
      by_cases q2 : p_line 1 x y ≤ p3
      · have d2 : (p3 < p_line 1 x y) = False := eq_false (Int32.not_lt.mpr q2)
        by_cases q3 : p3 ≤ p_line 1 x y + p_line 1 w hh - p4
        · have d3 : (p_line 1 x y + p_line 1 w hh - p4 < p3) = False := eq_false (Int32.not_lt.mpr q3)
          rw [decide_eq_true q2, decide_eq_true q3] at h
          (refine hG 900 _ _ _ _ ?_; simp only [r_X4_isOnSideOf, zk_vd ha, zk_vd hb, hi3, hi5, gp, spe_X4_isOnLineOf, spe_X6_lowest, spe_X6_highest, ha, hP, hb, hR, q0, zk_b0, Bool.true_eq_false, u0, fl, d2, d3])
          exact h
        · have d3 : (p_line 1 x y + p_line 1 w hh - p4 < p3) = True := eq_true (Int32.not_le.mp q3)
          rw [decide_eq_false q3, Bool.and_false] at h
          (refine hG 900 _ _ _ _ ?_; simp only [r_X4_isOnSideOf, zk_vd ha, zk_vd hb, hi3, hi5, gp, spe_X4_isOnLineOf, spe_X6_lowest, spe_X6_highest, ha, hP, hb, hR, q0, zk_b0, Bool.true_eq_false, u0, fl, d2, d3])
          exact h
      · have d2 : (p3 < p_line 1 x y) = True := eq_true (Int32.not_le.mp q2)
        rw [decide_eq_false q2, Bool.false_and] at h
        (refine hG 900 _ _ _ _ ?_; simp only [r_X4_isOnSideOf, zk_vd ha, zk_vd hb, hi3, hi5, gp, spe_X4_isOnLineOf, spe_X6_lowest, spe_X6_highest, ha, hP, hb, hR, q0, zk_b0, Bool.true_eq_false, u0, fl, d2])
        exact h
    · rw [if_neg u0] at h
      by_cases q2 : p_line 0 x y ≤ p3
      · have d2 : (p3 < p_line 0 x y) = False := eq_false (Int32.not_lt.mpr q2)
        by_cases q3 : p3 ≤ p_line 0 x y + p_line 0 w hh - p4
        · have d3 : (p_line 0 x y + p_line 0 w hh - p4 < p3) = False := eq_false (Int32.not_lt.mpr q3)
          rw [decide_eq_true q2, decide_eq_true q3] at h
          (refine hG 900 _ _ _ _ ?_; simp only [r_X4_isOnSideOf, zk_vd ha, zk_vd hb, hi3, hi5, gp, spe_X4_isOnLineOf, spe_X6_lowest, spe_X6_highest, ha, hP, hb, hR, q0, zk_b0, Bool.true_eq_false, u0, fl, d2, d3])
          exact h
        · have d3 : (p_line 0 x y + p_line 0 w hh - p4 < p3) = True := eq_true (Int32.not_le.mp q3)
          rw [decide_eq_false q3, Bool.and_false] at h
          (refine hG 900 _ _ _ _ ?_; simp only [r_X4_isOnSideOf, zk_vd ha, zk_vd hb, hi3, hi5, gp, spe_X4_isOnLineOf, spe_X6_lowest, spe_X6_highest, ha, hP, hb, hR, q0, zk_b0, Bool.true_eq_false, u0, fl, d2, d3])
          exact h
      · have d2 : (p3 < p_line 0 x y) = True := eq_true (Int32.not_le.mp q2)
        rw [decide_eq_false q2, Bool.false_and] at h
        (refine hG 900 _ _ _ _ ?_; simp only [r_X4_isOnSideOf, zk_vd ha, zk_vd hb, hi3, hi5, gp, spe_X4_isOnLineOf, spe_X6_lowest, spe_X6_highest, ha, hP, hb, hR, q0, zk_b0, Bool.true_eq_false, u0, fl, d2])
        exact h
theorem ct_X4_isOnSideOf {l : Launch} (hl : l.stackTraces = false) (E : zk_E) : zk_C l E (zk_VT E) yX4_isOnSideOf cX4_isOnSideOf 2 (some (.boolean)) rm_X4_isOnSideOf (sp_X4_isOnSideOf E) := by
  refine zk_meth (M := M_X4_isOnSideOf) (C := C_X4_isOnSideOf E) hl (by decide +kernel) rfl (fun _ _ => rfl) (zk_VT_ok E) MO_X4_isOnSideOf TO_X4_isOnSideOf THo_X4_isOnSideOf ?_ (vc_X4_isOnSideOf E)
  exact fun p e s m args below meth c X pc n mc ms sp2 h => by
    have h2 := zk_lka_mem h
    simp only [List.mem_cons, List.not_mem_nil, or_false, Prod.mk.injEq] at h2
    rcases h2 with ⟨rfl, rfl, rfl, rfl, rfl⟩ | ⟨rfl, rfl, rfl, rfl, rfl⟩ | ⟨rfl, rfl, rfl, rfl, rfl⟩
    · exact zk_coV (idx := 36) X (ct_X4_isOnLineOf hl E) (List.forall_mem_cons.mpr ⟨zk_wi 801 (by decide +kernel) rfl, List.forall_mem_cons.mpr ⟨zk_wi 802 (by decide +kernel) rfl, List.forall_mem_cons.mpr ⟨zk_wi 803 (by decide +kernel) rfl, List.forall_mem_cons.mpr ⟨zk_wi 15 (by decide +kernel) rfl, List.forall_mem_cons.mpr ⟨zk_wi 804 (by decide +kernel) rfl, fun _ h => absurd h List.not_mem_nil⟩⟩⟩⟩⟩) (fun ci h => by
      have h := Nat.eq_of_beq_eq_true h
      subst h
      exact ⟨_, _, rfl⟩) (by decide +kernel) ⟨by decide, by decide, by decide +kernel⟩ ⟨by decide, by decide⟩
    · exact zk_coV (idx := 29) X (ct_X6_lowest hl E) (List.forall_mem_cons.mpr ⟨zk_wi 805 (by decide +kernel) rfl, List.forall_mem_cons.mpr ⟨zk_wi 806 (by decide +kernel) rfl, List.forall_mem_cons.mpr ⟨zk_wi 807 (by decide +kernel) rfl, List.forall_mem_cons.mpr ⟨zk_wi 12 (by decide +kernel) rfl, List.forall_mem_cons.mpr ⟨zk_wi 808 (by decide +kernel) rfl, fun _ h => absurd h List.not_mem_nil⟩⟩⟩⟩⟩) (fun ci h => by
      have h := Nat.eq_of_beq_eq_true h
      subst h
      exact ⟨_, _, rfl⟩) (by decide +kernel) ⟨by decide, by decide, by decide +kernel⟩ ⟨by decide, by decide⟩
    · exact zk_coV (idx := 33) X (ct_X6_highest hl E) (List.forall_mem_cons.mpr ⟨zk_wi 809 (by decide +kernel) rfl, List.forall_mem_cons.mpr ⟨zk_wi 810 (by decide +kernel) rfl, List.forall_mem_cons.mpr ⟨zk_wi 811 (by decide +kernel) rfl, List.forall_mem_cons.mpr ⟨zk_wi 12 (by decide +kernel) rfl, List.forall_mem_cons.mpr ⟨zk_wi 812 (by decide +kernel) rfl, fun _ h => absurd h List.not_mem_nil⟩⟩⟩⟩⟩) (fun ci h => by
      have h := Nat.eq_of_beq_eq_true h
      subst h
      exact ⟨_, _, rfl⟩) (by decide +kernel) ⟨by decide, by decide, by decide +kernel⟩ ⟨by decide, by decide⟩
def sp_X4_touchesSideOf (E : zk_E) : zk_Sp zk_S := fun av σ sz P PX => match av with
  | [.ref a, .ref b] => E.1 + 28 ≤ a ∧ isP (σ.2.2.2.1 a) ∧ E.1 + 28 ≤ b ∧ isR (σ.2.2.2.1 b) ∧ P (some (.int (zk_b (m_tos (σ.2.2.2.1 a) (σ.2.2.2.1 b))))) σ sz
  | _ => False
theorem spe_X4_touchesSideOf (E : zk_E) (a : Nat) (b : Nat) (σ : zk_S) (sz : Nat) (P : zk_P zk_S) (PX : zk_X zk_S) : sp_X4_touchesSideOf E [.ref a, .ref b] σ sz P PX = (E.1 + 28 ≤ a ∧ isP (σ.2.2.2.1 a) ∧ E.1 + 28 ≤ b ∧ isR (σ.2.2.2.1 b) ∧ P (some (.int (zk_b (m_tos (σ.2.2.2.1 a) (σ.2.2.2.1 b))))) σ sz) := propext Iff.rfl
def C_X4_touchesSideOf (E : zk_E) : zk_Cl zk_S := zk_lka [(2, 2, 0, 0, zk_rv (zk_VT E) (fun ci => Nat.beq ci 3) (sp_X4_isOnLineOf E)), (25, 2, 0, 0, zk_rv (zk_VT E) (fun ci => Nat.beq ci 5) (sp_X6_highest E)), (53, 2, 0, 0, zk_rv (zk_VT E) (fun ci => Nat.beq ci 5) (sp_X6_lowest E))]
theorem r_X4_touchesSideOf (E : zk_E) (P : zk_P zk_S) (PX : zk_X zk_S) (K : Nat → zk_L → List Value → zk_W zk_S → Prop) : (∀ (n : Nat) (l1 : Option Value) (y0 : Value) (r : List Value) (σ : zk_S) (sz k c : Nat), zk_run E (zk_VT E) M_X4_touchesSideOf (C_X4_touchesSideOf E) P PX K (n + 1) 0 [some y0, l1] r (σ, sz, k, c) = (zk_isr y0 ∧ zk_run E (zk_VT E) M_X4_touchesSideOf (C_X4_touchesSideOf E) P PX K n 1 [some y0, l1] (y0 :: r) (σ, sz, k, c))) ∧
  (∀ (n : Nat) (l0 : Option Value) (y1 : Value) (r : List Value) (σ : zk_S) (sz k c : Nat), zk_run E (zk_VT E) M_X4_touchesSideOf (C_X4_touchesSideOf E) P PX K (n + 1) 1 [l0, some y1] r (σ, sz, k, c) = (zk_isr y1 ∧ zk_run E (zk_VT E) M_X4_touchesSideOf (C_X4_touchesSideOf E) P PX K n 2 [l0, some y1] (y1 :: r) (σ, sz, k, c))) ∧
  (∀ (n : Nat) (l0 l1 : Option Value) (v0 : Value) (v1 : Value)  (σ : zk_S) (sz k c : Nat), zk_run E (zk_VT E) M_X4_touchesSideOf (C_X4_touchesSideOf E) P PX K (n + 1) 2 [l0, l1] [v0, v1] (σ, sz, k, c) = (k + 0 ≤ 0 ∧ c + 0 ≤ 0 ∧ (zk_rv (zk_VT E) (fun ci => Nat.beq ci 3) (sp_X4_isOnLineOf E)) [v1, v0] σ sz (fun v s2 z2 => zk_run E (zk_VT E) M_X4_touchesSideOf (C_X4_touchesSideOf E) P PX K n 5 [l0, l1] (zk_psh v []) (s2, z2, k + 0, c + 0)) (fun X s2 z2 => PX X s2 z2))) ∧
  (∀ (n : Nat) (l0 l1 : Option Value) (x : Int32) (r : List Value) (σ : zk_S) (sz k c : Nat), zk_run E (zk_VT E) M_X4_touchesSideOf (C_X4_touchesSideOf E) P PX K (n + 1) 5 [l0, l1] (.int x :: r) (σ, sz, k, c) = ((x = 0 → zk_run E (zk_VT E) M_X4_touchesSideOf (C_X4_touchesSideOf E) P PX K n 63 [l0, l1] r (σ, sz, k, c)) ∧ (¬ (x = 0) → zk_run E (zk_VT E) M_X4_touchesSideOf (C_X4_touchesSideOf E) P PX K n 8 [l0, l1] r (σ, sz, k, c)))) ∧
  (∀ (n : Nat) (l1 : Option Value) (y0 : Value) (r : List Value) (σ : zk_S) (sz k c : Nat), zk_run E (zk_VT E) M_X4_touchesSideOf (C_X4_touchesSideOf E) P PX K (n + 1) 8 [some y0, l1] r (σ, sz, k, c) = (zk_isr y0 ∧ zk_run E (zk_VT E) M_X4_touchesSideOf (C_X4_touchesSideOf E) P PX K n 9 [some y0, l1] (y0 :: r) (σ, sz, k, c))) ∧
  (∀ (n : Nat) (l0 l1 : Option Value) (a : Nat) (r : List Value) (σ : zk_S) (sz k c : Nat), zk_run E (zk_VT E) M_X4_touchesSideOf (C_X4_touchesSideOf E) P PX K (n + 1) 9 [l0, l1] (.ref a :: r) (σ, sz, k, c) = zk_fld (zk_view E σ a) [3] 3 (fun v => zk_run E (zk_VT E) M_X4_touchesSideOf (C_X4_touchesSideOf E) P PX K n 12 [l0, l1] (v :: r) (σ, sz, k, c))) ∧
  (∀ (n : Nat) (l0 : Option Value) (y1 : Value) (r : List Value) (σ : zk_S) (sz k c : Nat), zk_run E (zk_VT E) M_X4_touchesSideOf (C_X4_touchesSideOf E) P PX K (n + 1) 12 [l0, some y1] r (σ, sz, k, c) = (zk_isr y1 ∧ zk_run E (zk_VT E) M_X4_touchesSideOf (C_X4_touchesSideOf E) P PX K n 13 [l0, some y1] (y1 :: r) (σ, sz, k, c))) ∧
  (∀ (n : Nat) (l1 : Option Value) (y0 : Value) (r : List Value) (σ : zk_S) (sz k c : Nat), zk_run E (zk_VT E) M_X4_touchesSideOf (C_X4_touchesSideOf E) P PX K (n + 1) 13 [some y0, l1] r (σ, sz, k, c) = (zk_isr y0 ∧ zk_run E (zk_VT E) M_X4_touchesSideOf (C_X4_touchesSideOf E) P PX K n 14 [some y0, l1] (y0 :: r) (σ, sz, k, c))) ∧
  (∀ (n : Nat) (l0 l1 : Option Value) (a : Nat) (r : List Value) (σ : zk_S) (sz k c : Nat), zk_run E (zk_VT E) M_X4_touchesSideOf (C_X4_touchesSideOf E) P PX K (n + 1) 14 [l0, l1] (.ref a :: r) (σ, sz, k, c) = zk_fld (zk_view E σ a) [3] 1 (fun v => zk_run E (zk_VT E) M_X4_touchesSideOf (C_X4_touchesSideOf E) P PX K n 17 [l0, l1] (v :: r) (σ, sz, k, c))) ∧
  (∀ (n : Nat) (l0 l1 : Option Value) (x : Int32) (r : List Value) (σ : zk_S) (sz k c : Nat), zk_run E (zk_VT E) M_X4_touchesSideOf (C_X4_touchesSideOf E) P PX K (n + 1) 17 [l0, l1] (.int x :: r) (σ, sz, k, c) = ((¬ x = 0 → zk_run E (zk_VT E) M_X4_touchesSideOf (C_X4_touchesSideOf E) P PX K n 24 [l0, l1] r (σ, sz, k, c)) ∧ (¬ (¬ x = 0) → zk_run E (zk_VT E) M_X4_touchesSideOf (C_X4_touchesSideOf E) P PX K n 20 [l0, l1] r (σ, sz, k, c)))) ∧
  (∀ (n : Nat) (l0 l1 : Option Value)  (r : List Value) (σ : zk_S) (sz k c : Nat), zk_run E (zk_VT E) M_X4_touchesSideOf (C_X4_touchesSideOf E) P PX K (n + 1) 20 [l0, l1] r (σ, sz, k, c) = zk_run E (zk_VT E) M_X4_touchesSideOf (C_X4_touchesSideOf E) P PX K n 21 [l0, l1] (.int (1) :: r) (σ, sz, k, c)) ∧
  (∀ (n : Nat) (l0 l1 : Option Value)  (r : List Value) (σ : zk_S) (sz k c : Nat), zk_run E (zk_VT E) M_X4_touchesSideOf (C_X4_touchesSideOf E) P PX K (n + 1) 21 [l0, l1] r (σ, sz, k, c) = zk_run E (zk_VT E) M_X4_touchesSideOf (C_X4_touchesSideOf E) P PX K n 25 [l0, l1] r (σ, sz, k, c)) ∧
  (∀ (n : Nat) (l0 l1 : Option Value)  (r : List Value) (σ : zk_S) (sz k c : Nat), zk_run E (zk_VT E) M_X4_touchesSideOf (C_X4_touchesSideOf E) P PX K (n + 1) 24 [l0, l1] r (σ, sz, k, c) = zk_run E (zk_VT E) M_X4_touchesSideOf (C_X4_touchesSideOf E) P PX K n 25 [l0, l1] (.int (0) :: r) (σ, sz, k, c)) ∧
  (∀ (n : Nat) (l0 l1 : Option Value) (v0 : Value) (v1 : Value) (v2 : Value)  (σ : zk_S) (sz k c : Nat), zk_run E (zk_VT E) M_X4_touchesSideOf (C_X4_touchesSideOf E) P PX K (n + 1) 25 [l0, l1] [v0, v1, v2] (σ, sz, k, c) = (k + 0 ≤ 0 ∧ c + 0 ≤ 0 ∧ (zk_rv (zk_VT E) (fun ci => Nat.beq ci 5) (sp_X6_highest E)) [v1, v0] σ sz (fun v s2 z2 => zk_run E (zk_VT E) M_X4_touchesSideOf (C_X4_touchesSideOf E) P PX K n 28 [l0, l1] (zk_psh v [v2]) (s2, z2, k + 0, c + 0)) (fun X s2 z2 => PX X s2 z2))) ∧
  (∀ (n : Nat) (l0 l1 : Option Value) (x y : Int32) (r : List Value) (σ : zk_S) (sz k c : Nat), zk_run E (zk_VT E) M_X4_touchesSideOf (C_X4_touchesSideOf E) P PX K (n + 1) 28 [l0, l1] (.int y :: .int x :: r) (σ, sz, k, c) = ((y ≤ x → zk_run E (zk_VT E) M_X4_touchesSideOf (C_X4_touchesSideOf E) P PX K n 63 [l0, l1] r (σ, sz, k, c)) ∧ (¬ (y ≤ x) → zk_run E (zk_VT E) M_X4_touchesSideOf (C_X4_touchesSideOf E) P PX K n 31 [l0, l1] r (σ, sz, k, c)))) ∧
  (∀ (n : Nat) (l1 : Option Value) (y0 : Value) (r : List Value) (σ : zk_S) (sz k c : Nat), zk_run E (zk_VT E) M_X4_touchesSideOf (C_X4_touchesSideOf E) P PX K (n + 1) 31 [some y0, l1] r (σ, sz, k, c) = (zk_isr y0 ∧ zk_run E (zk_VT E) M_X4_touchesSideOf (C_X4_touchesSideOf E) P PX K n 32 [some y0, l1] (y0 :: r) (σ, sz, k, c))) ∧
  (∀ (n : Nat) (l0 l1 : Option Value) (a : Nat) (r : List Value) (σ : zk_S) (sz k c : Nat), zk_run E (zk_VT E) M_X4_touchesSideOf (C_X4_touchesSideOf E) P PX K (n + 1) 32 [l0, l1] (.ref a :: r) (σ, sz, k, c) = zk_fld (zk_view E σ a) [3] 3 (fun v => zk_run E (zk_VT E) M_X4_touchesSideOf (C_X4_touchesSideOf E) P PX K n 35 [l0, l1] (v :: r) (σ, sz, k, c))) ∧
  (∀ (n : Nat) (l1 : Option Value) (y0 : Value) (r : List Value) (σ : zk_S) (sz k c : Nat), zk_run E (zk_VT E) M_X4_touchesSideOf (C_X4_touchesSideOf E) P PX K (n + 1) 35 [some y0, l1] r (σ, sz, k, c) = (zk_isr y0 ∧ zk_run E (zk_VT E) M_X4_touchesSideOf (C_X4_touchesSideOf E) P PX K n 36 [some y0, l1] (y0 :: r) (σ, sz, k, c))) ∧
  (∀ (n : Nat) (l0 l1 : Option Value) (a : Nat) (r : List Value) (σ : zk_S) (sz k c : Nat), zk_run E (zk_VT E) M_X4_touchesSideOf (C_X4_touchesSideOf E) P PX K (n + 1) 36 [l0, l1] (.ref a :: r) (σ, sz, k, c) = zk_fld (zk_view E σ a) [3] 4 (fun v => zk_run E (zk_VT E) M_X4_touchesSideOf (C_X4_touchesSideOf E) P PX K n 39 [l0, l1] (v :: r) (σ, sz, k, c))) ∧
  (∀ (n : Nat) (l0 l1 : Option Value) (x y : Int32) (r : List Value) (σ : zk_S) (sz k c : Nat), zk_run E (zk_VT E) M_X4_touchesSideOf (C_X4_touchesSideOf E) P PX K (n + 1) 39 [l0, l1] (.int y :: .int x :: r) (σ, sz, k, c) = zk_run E (zk_VT E) M_X4_touchesSideOf (C_X4_touchesSideOf E) P PX K n 40 [l0, l1] (.int (x + y) :: r) (σ, sz, k, c)) ∧
  (∀ (n : Nat) (l0 : Option Value) (y1 : Value) (r : List Value) (σ : zk_S) (sz k c : Nat), zk_run E (zk_VT E) M_X4_touchesSideOf (C_X4_touchesSideOf E) P PX K (n + 1) 40 [l0, some y1] r (σ, sz, k, c) = (zk_isr y1 ∧ zk_run E (zk_VT E) M_X4_touchesSideOf (C_X4_touchesSideOf E) P PX K n 41 [l0, some y1] (y1 :: r) (σ, sz, k, c))) ∧
  (∀ (n : Nat) (l1 : Option Value) (y0 : Value) (r : List Value) (σ : zk_S) (sz k c : Nat), zk_run E (zk_VT E) M_X4_touchesSideOf (C_X4_touchesSideOf E) P PX K (n + 1) 41 [some y0, l1] r (σ, sz, k, c) = (zk_isr y0 ∧ zk_run E (zk_VT E) M_X4_touchesSideOf (C_X4_touchesSideOf E) P PX K n 42 [some y0, l1] (y0 :: r) (σ, sz, k, c))) ∧
  (∀ (n : Nat) (l0 l1 : Option Value) (a : Nat) (r : List Value) (σ : zk_S) (sz k c : Nat), zk_run E (zk_VT E) M_X4_touchesSideOf (C_X4_touchesSideOf E) P PX K (n + 1) 42 [l0, l1] (.ref a :: r) (σ, sz, k, c) = zk_fld (zk_view E σ a) [3] 1 (fun v => zk_run E (zk_VT E) M_X4_touchesSideOf (C_X4_touchesSideOf E) P PX K n 45 [l0, l1] (v :: r) (σ, sz, k, c))) ∧
  (∀ (n : Nat) (l0 l1 : Option Value) (x : Int32) (r : List Value) (σ : zk_S) (sz k c : Nat), zk_run E (zk_VT E) M_X4_touchesSideOf (C_X4_touchesSideOf E) P PX K (n + 1) 45 [l0, l1] (.int x :: r) (σ, sz, k, c) = ((¬ x = 0 → zk_run E (zk_VT E) M_X4_touchesSideOf (C_X4_touchesSideOf E) P PX K n 52 [l0, l1] r (σ, sz, k, c)) ∧ (¬ (¬ x = 0) → zk_run E (zk_VT E) M_X4_touchesSideOf (C_X4_touchesSideOf E) P PX K n 48 [l0, l1] r (σ, sz, k, c)))) ∧
  (∀ (n : Nat) (l0 l1 : Option Value)  (r : List Value) (σ : zk_S) (sz k c : Nat), zk_run E (zk_VT E) M_X4_touchesSideOf (C_X4_touchesSideOf E) P PX K (n + 1) 48 [l0, l1] r (σ, sz, k, c) = zk_run E (zk_VT E) M_X4_touchesSideOf (C_X4_touchesSideOf E) P PX K n 49 [l0, l1] (.int (1) :: r) (σ, sz, k, c)) ∧
  (∀ (n : Nat) (l0 l1 : Option Value)  (r : List Value) (σ : zk_S) (sz k c : Nat), zk_run E (zk_VT E) M_X4_touchesSideOf (C_X4_touchesSideOf E) P PX K (n + 1) 49 [l0, l1] r (σ, sz, k, c) = zk_run E (zk_VT E) M_X4_touchesSideOf (C_X4_touchesSideOf E) P PX K n 53 [l0, l1] r (σ, sz, k, c)) ∧
  (∀ (n : Nat) (l0 l1 : Option Value)  (r : List Value) (σ : zk_S) (sz k c : Nat), zk_run E (zk_VT E) M_X4_touchesSideOf (C_X4_touchesSideOf E) P PX K (n + 1) 52 [l0, l1] r (σ, sz, k, c) = zk_run E (zk_VT E) M_X4_touchesSideOf (C_X4_touchesSideOf E) P PX K n 53 [l0, l1] (.int (0) :: r) (σ, sz, k, c)) ∧
  (∀ (n : Nat) (l0 l1 : Option Value) (v0 : Value) (v1 : Value) (v2 : Value)  (σ : zk_S) (sz k c : Nat), zk_run E (zk_VT E) M_X4_touchesSideOf (C_X4_touchesSideOf E) P PX K (n + 1) 53 [l0, l1] [v0, v1, v2] (σ, sz, k, c) = (k + 0 ≤ 0 ∧ c + 0 ≤ 0 ∧ (zk_rv (zk_VT E) (fun ci => Nat.beq ci 5) (sp_X6_lowest E)) [v1, v0] σ sz (fun v s2 z2 => zk_run E (zk_VT E) M_X4_touchesSideOf (C_X4_touchesSideOf E) P PX K n 56 [l0, l1] (zk_psh v [v2]) (s2, z2, k + 0, c + 0)) (fun X s2 z2 => PX X s2 z2))) ∧
  (∀ (n : Nat) (l0 l1 : Option Value) (x y : Int32) (r : List Value) (σ : zk_S) (sz k c : Nat), zk_run E (zk_VT E) M_X4_touchesSideOf (C_X4_touchesSideOf E) P PX K (n + 1) 56 [l0, l1] (.int y :: .int x :: r) (σ, sz, k, c) = ((x ≤ y → zk_run E (zk_VT E) M_X4_touchesSideOf (C_X4_touchesSideOf E) P PX K n 63 [l0, l1] r (σ, sz, k, c)) ∧ (¬ (x ≤ y) → zk_run E (zk_VT E) M_X4_touchesSideOf (C_X4_touchesSideOf E) P PX K n 59 [l0, l1] r (σ, sz, k, c)))) ∧
  (∀ (n : Nat) (l0 l1 : Option Value)  (r : List Value) (σ : zk_S) (sz k c : Nat), zk_run E (zk_VT E) M_X4_touchesSideOf (C_X4_touchesSideOf E) P PX K (n + 1) 59 [l0, l1] r (σ, sz, k, c) = zk_run E (zk_VT E) M_X4_touchesSideOf (C_X4_touchesSideOf E) P PX K n 60 [l0, l1] (.int (1) :: r) (σ, sz, k, c)) ∧
  (∀ (n : Nat) (l0 l1 : Option Value)  (r : List Value) (σ : zk_S) (sz k c : Nat), zk_run E (zk_VT E) M_X4_touchesSideOf (C_X4_touchesSideOf E) P PX K (n + 1) 60 [l0, l1] r (σ, sz, k, c) = zk_run E (zk_VT E) M_X4_touchesSideOf (C_X4_touchesSideOf E) P PX K n 64 [l0, l1] r (σ, sz, k, c)) ∧
  (∀ (n : Nat) (l0 l1 : Option Value)  (r : List Value) (σ : zk_S) (sz k c : Nat), zk_run E (zk_VT E) M_X4_touchesSideOf (C_X4_touchesSideOf E) P PX K (n + 1) 63 [l0, l1] r (σ, sz, k, c) = zk_run E (zk_VT E) M_X4_touchesSideOf (C_X4_touchesSideOf E) P PX K n 64 [l0, l1] (.int (0) :: r) (σ, sz, k, c)) ∧
  (∀ (n : Nat) (l0 l1 : Option Value) (x : Int32)  (σ : zk_S) (sz k c : Nat), zk_run E (zk_VT E) M_X4_touchesSideOf (C_X4_touchesSideOf E) P PX K (n + 1) 64 [l0, l1] [.int x] (σ, sz, k, c) = (zk_nok (some (.boolean)) x ∧ P (some (.int x)) σ sz ∧ k ≤ 0 ∧ c ≤ 0)) ∧
  (∀ (n : Nat) (l0 l1 : Option Value) (r : List Value) (w : zk_W zk_S), zk_go E (zk_VT E) M_X4_touchesSideOf (C_X4_touchesSideOf E) P PX K n 0 [l0, l1] r w = zk_run E (zk_VT E) M_X4_touchesSideOf (C_X4_touchesSideOf E) P PX K (n + 1) 0 [l0, l1] r w) := ⟨by intros; rfl, by intros; rfl, by intros; rfl, by intros; rfl, by intros; rfl, by intros; rfl, by intros; rfl, by intros; rfl, by intros; rfl, by intros; rfl, by intros; rfl, by intros; rfl, by intros; rfl, by intros; rfl, by intros; rfl, by intros; rfl, by intros; rfl, by intros; rfl, by intros; rfl, by intros; rfl, by intros; rfl, by intros; rfl, by intros; rfl, by intros; rfl, by intros; rfl, by intros; rfl, by intros; rfl, by intros; rfl, by intros; rfl, by intros; rfl, by intros; rfl, by intros; rfl, by intros; rfl, by intros; rfl⟩
theorem vc_X4_touchesSideOf (E : zk_E) : zk_VC E (zk_VT E) M_X4_touchesSideOf (C_X4_touchesSideOf E) 2 (sp_X4_touchesSideOf E) := by
  intro av σ sz P PX h
  obtain ⟨J, N, Q, O, U⟩ := σ
  unfold sp_X4_touchesSideOf at h
  split at h
  case h_2 => exact h.elim
  rename_i a b
  refine ⟨Nat.le_of_ble_eq_true rfl, fun G hG => ?_⟩
  change G 0 [some (.ref (a)), some (.ref b)] [] ((J, N, Q, O, U), sz, 0, 0)
  try dsimp only at h
  obtain ⟨ha, hP, hb, hR, h⟩ := h
  obtain ⟨p0, p1, p2, p3, p4, hO⟩ := id hP
  obtain ⟨s0, s1, x, y, w, hh, s6, s7, hO2⟩ := id hR
  unfold m_tos at h
  cases q0 : m_onl (O a) (O b) with
  | false =>
    rw [q0, Bool.false_and] at h
    have hi3 : ∀ k, zk_is (O a) k = (k 3 = true) := fun k => by rw [hO]; rfl
    (refine hG 900 _ _ _ _ ?_; simp only [r_X4_touchesSideOf, zk_vd ha, hi3, spe_X4_isOnLineOf, ha, hP, hb, hR, q0, zk_b0])
    exact h
  | true =>
    rw [q0, Bool.true_and] at h
    have hi3 : ∀ k, zk_is (O a) k = (k 3 = true) := fun k => by rw [hO]; rfl
    have hi5 : ∀ k, zk_is (O b) k = (k 5 = true) := fun k => by rw [hO2]; rfl
    have gp : ∀ k (F : Value → Prop), zk_fld (O a) [3] k F = zk_nth [.int p0, .int p1, .int p2, .int p3, .int p4] k F := fun k F => by rw [hO]; simp [zk_fld_o, cP]
    have fp : fI (O a) 1 = p1 ∧ fI (O a) 3 = p3 ∧ fI (O a) 4 = p4 := by rw [hO]; exact ⟨rfl, rfl, rfl⟩
    have fl : fI (O b) 2 = x ∧ fI (O b) 3 = y ∧ fI (O b) 4 = w ∧ fI (O b) 5 = hh := by rw [hO2]; exact ⟨rfl, rfl, rfl, rfl⟩
    rw [fp.1, fp.2.1, fp.2.2, fl.1, fl.2.1, fl.2.2.1, fl.2.2.2, ← u_fl_line, ← u_fl_line] at h
    unfold u_fl at h
    by_cases u0 : p1 = 0
    · rw [if_pos u0] at h
      by_cases q2 : p3 < p_line 1 x y + p_line 1 w hh
      · have d2 : (p_line 1 x y + p_line 1 w hh ≤ p3) = False := eq_false (Int32.not_le.mpr q2)
        by_cases q3 : p_line 1 x y < p3 + p4
        · have d3 : (p3 + p4 ≤ p_line 1 x y) = False := eq_false (Int32.not_le.mpr q3)
          rw [decide_eq_true q2, decide_eq_true q3] at h
          (refine hG 900 _ _ _ _ ?_; simp only [r_X4_touchesSideOf, zk_vd ha, zk_vd hb, hi3, hi5, gp, spe_X4_isOnLineOf, spe_X6_lowest, spe_X6_highest, ha, hP, hb, hR, q0, zk_b0, Bool.true_eq_false, u0, fl, d2, d3])
          exact h
        · have d3 : (p3 + p4 ≤ p_line 1 x y) = True := eq_true (Int32.not_lt.mp q3)
          rw [decide_eq_false q3, Bool.and_false] at h
          (refine hG 900 _ _ _ _ ?_; simp only [r_X4_touchesSideOf, zk_vd ha, zk_vd hb, hi3, hi5, gp, spe_X4_isOnLineOf, spe_X6_lowest, spe_X6_highest, ha, hP, hb, hR, q0, zk_b0, Bool.true_eq_false, u0, fl, d2, d3])
          exact h
      · have d2 : (p_line 1 x y + p_line 1 w hh ≤ p3) = True := eq_true (Int32.not_lt.mp q2)
        rw [decide_eq_false q2, Bool.false_and] at h
        (refine hG 900 _ _ _ _ ?_; simp only [r_X4_touchesSideOf, zk_vd ha, zk_vd hb, hi3, hi5, gp, spe_X4_isOnLineOf, spe_X6_lowest, spe_X6_highest, ha, hP, hb, hR, q0, zk_b0, Bool.true_eq_false, u0, fl, d2])
        exact h
    · rw [if_neg u0] at h
      by_cases q2 : p3 < p_line 0 x y + p_line 0 w hh
      · have d2 : (p_line 0 x y + p_line 0 w hh ≤ p3) = False := eq_false (Int32.not_le.mpr q2)
        by_cases q3 : p_line 0 x y < p3 + p4
        · have d3 : (p3 + p4 ≤ p_line 0 x y) = False := eq_false (Int32.not_le.mpr q3)
          rw [decide_eq_true q2, decide_eq_true q3] at h
          (refine hG 900 _ _ _ _ ?_; simp only [r_X4_touchesSideOf, zk_vd ha, zk_vd hb, hi3, hi5, gp, spe_X4_isOnLineOf, spe_X6_lowest, spe_X6_highest, ha, hP, hb, hR, q0, zk_b0, Bool.true_eq_false, u0, fl, d2, d3])
          exact h
        · have d3 : (p3 + p4 ≤ p_line 0 x y) = True := eq_true (Int32.not_lt.mp q3)
          rw [decide_eq_false q3, Bool.and_false] at h
          (refine hG 900 _ _ _ _ ?_; simp only [r_X4_touchesSideOf, zk_vd ha, zk_vd hb, hi3, hi5, gp, spe_X4_isOnLineOf, spe_X6_lowest, spe_X6_highest, ha, hP, hb, hR, q0, zk_b0, Bool.true_eq_false, u0, fl, d2, d3])
          exact h
      · have d2 : (p_line 0 x y + p_line 0 w hh ≤ p3) = True := eq_true (Int32.not_lt.mp q2)
        rw [decide_eq_false q2, Bool.false_and] at h
        (refine hG 900 _ _ _ _ ?_; simp only [r_X4_touchesSideOf, zk_vd ha, zk_vd hb, hi3, hi5, gp, spe_X4_isOnLineOf, spe_X6_lowest, spe_X6_highest, ha, hP, hb, hR, q0, zk_b0, Bool.true_eq_false, u0, fl, d2])
        exact h
theorem ct_X4_touchesSideOf {l : Launch} (hl : l.stackTraces = false) (E : zk_E) : zk_C l E (zk_VT E) yX4_touchesSideOf cX4_touchesSideOf 2 (some (.boolean)) rm_X4_touchesSideOf (sp_X4_touchesSideOf E) := by
  refine zk_meth (M := M_X4_touchesSideOf) (C := C_X4_touchesSideOf E) hl (by decide +kernel) rfl (fun _ _ => rfl) (zk_VT_ok E) MO_X4_touchesSideOf TO_X4_touchesSideOf THo_X4_touchesSideOf ?_ (vc_X4_touchesSideOf E)
  exact fun p e s m args below meth c X pc n mc ms sp2 h => by
    have h2 := zk_lka_mem h
    simp only [List.mem_cons, List.not_mem_nil, or_false, Prod.mk.injEq] at h2
    rcases h2 with ⟨rfl, rfl, rfl, rfl, rfl⟩ | ⟨rfl, rfl, rfl, rfl, rfl⟩ | ⟨rfl, rfl, rfl, rfl, rfl⟩
    · exact zk_coV (idx := 36) X (ct_X4_isOnLineOf hl E) (List.forall_mem_cons.mpr ⟨zk_wi 801 (by decide +kernel) rfl, List.forall_mem_cons.mpr ⟨zk_wi 802 (by decide +kernel) rfl, List.forall_mem_cons.mpr ⟨zk_wi 803 (by decide +kernel) rfl, List.forall_mem_cons.mpr ⟨zk_wi 15 (by decide +kernel) rfl, List.forall_mem_cons.mpr ⟨zk_wi 804 (by decide +kernel) rfl, fun _ h => absurd h List.not_mem_nil⟩⟩⟩⟩⟩) (fun ci h => by
      have h := Nat.eq_of_beq_eq_true h
      subst h
      exact ⟨_, _, rfl⟩) (by decide +kernel) ⟨by decide, by decide, by decide +kernel⟩ ⟨by decide, by decide⟩
    · exact zk_coV (idx := 33) X (ct_X6_highest hl E) (List.forall_mem_cons.mpr ⟨zk_wi 809 (by decide +kernel) rfl, List.forall_mem_cons.mpr ⟨zk_wi 810 (by decide +kernel) rfl, List.forall_mem_cons.mpr ⟨zk_wi 811 (by decide +kernel) rfl, List.forall_mem_cons.mpr ⟨zk_wi 12 (by decide +kernel) rfl, List.forall_mem_cons.mpr ⟨zk_wi 812 (by decide +kernel) rfl, fun _ h => absurd h List.not_mem_nil⟩⟩⟩⟩⟩) (fun ci h => by
      have h := Nat.eq_of_beq_eq_true h
      subst h
      exact ⟨_, _, rfl⟩) (by decide +kernel) ⟨by decide, by decide, by decide +kernel⟩ ⟨by decide, by decide⟩
    · exact zk_coV (idx := 29) X (ct_X6_lowest hl E) (List.forall_mem_cons.mpr ⟨zk_wi 805 (by decide +kernel) rfl, List.forall_mem_cons.mpr ⟨zk_wi 806 (by decide +kernel) rfl, List.forall_mem_cons.mpr ⟨zk_wi 807 (by decide +kernel) rfl, List.forall_mem_cons.mpr ⟨zk_wi 12 (by decide +kernel) rfl, List.forall_mem_cons.mpr ⟨zk_wi 808 (by decide +kernel) rfl, fun _ h => absurd h List.not_mem_nil⟩⟩⟩⟩⟩) (fun ci h => by
      have h := Nat.eq_of_beq_eq_true h
      subst h
      exact ⟨_, _, rfl⟩) (by decide +kernel) ⟨by decide, by decide, by decide +kernel⟩ ⟨by decide, by decide⟩
def m_shw (p q : Option va_E) : Bool := decide (fI p 0 = fI q 0) && p_sh (fI p 1) (fI q 1) (fI p 2) (fI q 2) (fI p 3) (fI q 3) (fI p 4) (fI q 4)
def sp_X4_sharesWith (E : zk_E) : zk_Sp zk_S := fun av σ sz P PX => match av with
  | [.ref a, .ref b] => E.1 + 28 ≤ a ∧ isP (σ.2.2.2.1 a) ∧ E.1 + 28 ≤ b ∧ isP (σ.2.2.2.1 b) ∧ P (some (.int (zk_b (m_shw (σ.2.2.2.1 a) (σ.2.2.2.1 b))))) σ sz
  | _ => False
theorem spe_X4_sharesWith (E : zk_E) (a : Nat) (b : Nat) (σ : zk_S) (sz : Nat) (P : zk_P zk_S) (PX : zk_X zk_S) : sp_X4_sharesWith E [.ref a, .ref b] σ sz P PX = (E.1 + 28 ≤ a ∧ isP (σ.2.2.2.1 a) ∧ E.1 + 28 ≤ b ∧ isP (σ.2.2.2.1 b) ∧ P (some (.int (zk_b (m_shw (σ.2.2.2.1 a) (σ.2.2.2.1 b))))) σ sz) := propext Iff.rfl
def C_X4_sharesWith (E : zk_E) : zk_Cl zk_S := zk_lka []
theorem r_X4_sharesWith (E : zk_E) (P : zk_P zk_S) (PX : zk_X zk_S) (K : Nat → zk_L → List Value → zk_W zk_S → Prop) : (∀ (n : Nat) (l1 : Option Value) (y0 : Value) (r : List Value) (σ : zk_S) (sz k c : Nat), zk_run E (zk_VT E) M_X4_sharesWith (C_X4_sharesWith E) P PX K (n + 1) 0 [some y0, l1] r (σ, sz, k, c) = (zk_isr y0 ∧ zk_run E (zk_VT E) M_X4_sharesWith (C_X4_sharesWith E) P PX K n 1 [some y0, l1] (y0 :: r) (σ, sz, k, c))) ∧
  (∀ (n : Nat) (l0 l1 : Option Value) (a : Nat) (r : List Value) (σ : zk_S) (sz k c : Nat), zk_run E (zk_VT E) M_X4_sharesWith (C_X4_sharesWith E) P PX K (n + 1) 1 [l0, l1] (.ref a :: r) (σ, sz, k, c) = zk_fld (zk_view E σ a) [3] 0 (fun v => zk_run E (zk_VT E) M_X4_sharesWith (C_X4_sharesWith E) P PX K n 4 [l0, l1] (v :: r) (σ, sz, k, c))) ∧
  (∀ (n : Nat) (l0 : Option Value) (y1 : Value) (r : List Value) (σ : zk_S) (sz k c : Nat), zk_run E (zk_VT E) M_X4_sharesWith (C_X4_sharesWith E) P PX K (n + 1) 4 [l0, some y1] r (σ, sz, k, c) = (zk_isr y1 ∧ zk_run E (zk_VT E) M_X4_sharesWith (C_X4_sharesWith E) P PX K n 5 [l0, some y1] (y1 :: r) (σ, sz, k, c))) ∧
  (∀ (n : Nat) (l0 l1 : Option Value) (a : Nat) (r : List Value) (σ : zk_S) (sz k c : Nat), zk_run E (zk_VT E) M_X4_sharesWith (C_X4_sharesWith E) P PX K (n + 1) 5 [l0, l1] (.ref a :: r) (σ, sz, k, c) = zk_fld (zk_view E σ a) [3] 0 (fun v => zk_run E (zk_VT E) M_X4_sharesWith (C_X4_sharesWith E) P PX K n 8 [l0, l1] (v :: r) (σ, sz, k, c))) ∧
  (∀ (n : Nat) (l0 l1 : Option Value) (x y : Int32) (r : List Value) (σ : zk_S) (sz k c : Nat), zk_run E (zk_VT E) M_X4_sharesWith (C_X4_sharesWith E) P PX K (n + 1) 8 [l0, l1] (.int y :: .int x :: r) (σ, sz, k, c) = ((¬ x = y → zk_run E (zk_VT E) M_X4_sharesWith (C_X4_sharesWith E) P PX K n 69 [l0, l1] r (σ, sz, k, c)) ∧ (¬ (¬ x = y) → zk_run E (zk_VT E) M_X4_sharesWith (C_X4_sharesWith E) P PX K n 11 [l0, l1] r (σ, sz, k, c)))) ∧
  (∀ (n : Nat) (l1 : Option Value) (y0 : Value) (r : List Value) (σ : zk_S) (sz k c : Nat), zk_run E (zk_VT E) M_X4_sharesWith (C_X4_sharesWith E) P PX K (n + 1) 11 [some y0, l1] r (σ, sz, k, c) = (zk_isr y0 ∧ zk_run E (zk_VT E) M_X4_sharesWith (C_X4_sharesWith E) P PX K n 12 [some y0, l1] (y0 :: r) (σ, sz, k, c))) ∧
  (∀ (n : Nat) (l0 l1 : Option Value) (a : Nat) (r : List Value) (σ : zk_S) (sz k c : Nat), zk_run E (zk_VT E) M_X4_sharesWith (C_X4_sharesWith E) P PX K (n + 1) 12 [l0, l1] (.ref a :: r) (σ, sz, k, c) = zk_fld (zk_view E σ a) [3] 1 (fun v => zk_run E (zk_VT E) M_X4_sharesWith (C_X4_sharesWith E) P PX K n 15 [l0, l1] (v :: r) (σ, sz, k, c))) ∧
  (∀ (n : Nat) (l0 : Option Value) (y1 : Value) (r : List Value) (σ : zk_S) (sz k c : Nat), zk_run E (zk_VT E) M_X4_sharesWith (C_X4_sharesWith E) P PX K (n + 1) 15 [l0, some y1] r (σ, sz, k, c) = (zk_isr y1 ∧ zk_run E (zk_VT E) M_X4_sharesWith (C_X4_sharesWith E) P PX K n 16 [l0, some y1] (y1 :: r) (σ, sz, k, c))) ∧
  (∀ (n : Nat) (l0 l1 : Option Value) (a : Nat) (r : List Value) (σ : zk_S) (sz k c : Nat), zk_run E (zk_VT E) M_X4_sharesWith (C_X4_sharesWith E) P PX K (n + 1) 16 [l0, l1] (.ref a :: r) (σ, sz, k, c) = zk_fld (zk_view E σ a) [3] 1 (fun v => zk_run E (zk_VT E) M_X4_sharesWith (C_X4_sharesWith E) P PX K n 19 [l0, l1] (v :: r) (σ, sz, k, c))) ∧
  (∀ (n : Nat) (l0 l1 : Option Value) (x y : Int32) (r : List Value) (σ : zk_S) (sz k c : Nat), zk_run E (zk_VT E) M_X4_sharesWith (C_X4_sharesWith E) P PX K (n + 1) 19 [l0, l1] (.int y :: .int x :: r) (σ, sz, k, c) = ((¬ x = y → zk_run E (zk_VT E) M_X4_sharesWith (C_X4_sharesWith E) P PX K n 69 [l0, l1] r (σ, sz, k, c)) ∧ (¬ (¬ x = y) → zk_run E (zk_VT E) M_X4_sharesWith (C_X4_sharesWith E) P PX K n 22 [l0, l1] r (σ, sz, k, c)))) ∧
  (∀ (n : Nat) (l1 : Option Value) (y0 : Value) (r : List Value) (σ : zk_S) (sz k c : Nat), zk_run E (zk_VT E) M_X4_sharesWith (C_X4_sharesWith E) P PX K (n + 1) 22 [some y0, l1] r (σ, sz, k, c) = (zk_isr y0 ∧ zk_run E (zk_VT E) M_X4_sharesWith (C_X4_sharesWith E) P PX K n 23 [some y0, l1] (y0 :: r) (σ, sz, k, c))) ∧
  (∀ (n : Nat) (l0 l1 : Option Value) (a : Nat) (r : List Value) (σ : zk_S) (sz k c : Nat), zk_run E (zk_VT E) M_X4_sharesWith (C_X4_sharesWith E) P PX K (n + 1) 23 [l0, l1] (.ref a :: r) (σ, sz, k, c) = zk_fld (zk_view E σ a) [3] 2 (fun v => zk_run E (zk_VT E) M_X4_sharesWith (C_X4_sharesWith E) P PX K n 26 [l0, l1] (v :: r) (σ, sz, k, c))) ∧
  (∀ (n : Nat) (l0 : Option Value) (y1 : Value) (r : List Value) (σ : zk_S) (sz k c : Nat), zk_run E (zk_VT E) M_X4_sharesWith (C_X4_sharesWith E) P PX K (n + 1) 26 [l0, some y1] r (σ, sz, k, c) = (zk_isr y1 ∧ zk_run E (zk_VT E) M_X4_sharesWith (C_X4_sharesWith E) P PX K n 27 [l0, some y1] (y1 :: r) (σ, sz, k, c))) ∧
  (∀ (n : Nat) (l0 l1 : Option Value) (a : Nat) (r : List Value) (σ : zk_S) (sz k c : Nat), zk_run E (zk_VT E) M_X4_sharesWith (C_X4_sharesWith E) P PX K (n + 1) 27 [l0, l1] (.ref a :: r) (σ, sz, k, c) = zk_fld (zk_view E σ a) [3] 2 (fun v => zk_run E (zk_VT E) M_X4_sharesWith (C_X4_sharesWith E) P PX K n 30 [l0, l1] (v :: r) (σ, sz, k, c))) ∧
  (∀ (n : Nat) (l0 l1 : Option Value) (x y : Int32) (r : List Value) (σ : zk_S) (sz k c : Nat), zk_run E (zk_VT E) M_X4_sharesWith (C_X4_sharesWith E) P PX K (n + 1) 30 [l0, l1] (.int y :: .int x :: r) (σ, sz, k, c) = ((¬ x = y → zk_run E (zk_VT E) M_X4_sharesWith (C_X4_sharesWith E) P PX K n 69 [l0, l1] r (σ, sz, k, c)) ∧ (¬ (¬ x = y) → zk_run E (zk_VT E) M_X4_sharesWith (C_X4_sharesWith E) P PX K n 33 [l0, l1] r (σ, sz, k, c)))) ∧
  (∀ (n : Nat) (l1 : Option Value) (y0 : Value) (r : List Value) (σ : zk_S) (sz k c : Nat), zk_run E (zk_VT E) M_X4_sharesWith (C_X4_sharesWith E) P PX K (n + 1) 33 [some y0, l1] r (σ, sz, k, c) = (zk_isr y0 ∧ zk_run E (zk_VT E) M_X4_sharesWith (C_X4_sharesWith E) P PX K n 34 [some y0, l1] (y0 :: r) (σ, sz, k, c))) ∧
  (∀ (n : Nat) (l0 l1 : Option Value) (a : Nat) (r : List Value) (σ : zk_S) (sz k c : Nat), zk_run E (zk_VT E) M_X4_sharesWith (C_X4_sharesWith E) P PX K (n + 1) 34 [l0, l1] (.ref a :: r) (σ, sz, k, c) = zk_fld (zk_view E σ a) [3] 3 (fun v => zk_run E (zk_VT E) M_X4_sharesWith (C_X4_sharesWith E) P PX K n 37 [l0, l1] (v :: r) (σ, sz, k, c))) ∧
  (∀ (n : Nat) (l0 : Option Value) (y1 : Value) (r : List Value) (σ : zk_S) (sz k c : Nat), zk_run E (zk_VT E) M_X4_sharesWith (C_X4_sharesWith E) P PX K (n + 1) 37 [l0, some y1] r (σ, sz, k, c) = (zk_isr y1 ∧ zk_run E (zk_VT E) M_X4_sharesWith (C_X4_sharesWith E) P PX K n 38 [l0, some y1] (y1 :: r) (σ, sz, k, c))) ∧
  (∀ (n : Nat) (l0 l1 : Option Value) (a : Nat) (r : List Value) (σ : zk_S) (sz k c : Nat), zk_run E (zk_VT E) M_X4_sharesWith (C_X4_sharesWith E) P PX K (n + 1) 38 [l0, l1] (.ref a :: r) (σ, sz, k, c) = zk_fld (zk_view E σ a) [3] 3 (fun v => zk_run E (zk_VT E) M_X4_sharesWith (C_X4_sharesWith E) P PX K n 41 [l0, l1] (v :: r) (σ, sz, k, c))) ∧
  (∀ (n : Nat) (l0 : Option Value) (y1 : Value) (r : List Value) (σ : zk_S) (sz k c : Nat), zk_run E (zk_VT E) M_X4_sharesWith (C_X4_sharesWith E) P PX K (n + 1) 41 [l0, some y1] r (σ, sz, k, c) = (zk_isr y1 ∧ zk_run E (zk_VT E) M_X4_sharesWith (C_X4_sharesWith E) P PX K n 42 [l0, some y1] (y1 :: r) (σ, sz, k, c))) ∧
  (∀ (n : Nat) (l0 l1 : Option Value) (a : Nat) (r : List Value) (σ : zk_S) (sz k c : Nat), zk_run E (zk_VT E) M_X4_sharesWith (C_X4_sharesWith E) P PX K (n + 1) 42 [l0, l1] (.ref a :: r) (σ, sz, k, c) = zk_fld (zk_view E σ a) [3] 4 (fun v => zk_run E (zk_VT E) M_X4_sharesWith (C_X4_sharesWith E) P PX K n 45 [l0, l1] (v :: r) (σ, sz, k, c))) ∧
  (∀ (n : Nat) (l0 l1 : Option Value) (x y : Int32) (r : List Value) (σ : zk_S) (sz k c : Nat), zk_run E (zk_VT E) M_X4_sharesWith (C_X4_sharesWith E) P PX K (n + 1) 45 [l0, l1] (.int y :: .int x :: r) (σ, sz, k, c) = zk_run E (zk_VT E) M_X4_sharesWith (C_X4_sharesWith E) P PX K n 46 [l0, l1] (.int (x + y) :: r) (σ, sz, k, c)) ∧
  (∀ (n : Nat) (l0 l1 : Option Value) (x y : Int32) (r : List Value) (σ : zk_S) (sz k c : Nat), zk_run E (zk_VT E) M_X4_sharesWith (C_X4_sharesWith E) P PX K (n + 1) 46 [l0, l1] (.int y :: .int x :: r) (σ, sz, k, c) = ((y ≤ x → zk_run E (zk_VT E) M_X4_sharesWith (C_X4_sharesWith E) P PX K n 69 [l0, l1] r (σ, sz, k, c)) ∧ (¬ (y ≤ x) → zk_run E (zk_VT E) M_X4_sharesWith (C_X4_sharesWith E) P PX K n 49 [l0, l1] r (σ, sz, k, c)))) ∧
  (∀ (n : Nat) (l0 : Option Value) (y1 : Value) (r : List Value) (σ : zk_S) (sz k c : Nat), zk_run E (zk_VT E) M_X4_sharesWith (C_X4_sharesWith E) P PX K (n + 1) 49 [l0, some y1] r (σ, sz, k, c) = (zk_isr y1 ∧ zk_run E (zk_VT E) M_X4_sharesWith (C_X4_sharesWith E) P PX K n 50 [l0, some y1] (y1 :: r) (σ, sz, k, c))) ∧
  (∀ (n : Nat) (l0 l1 : Option Value) (a : Nat) (r : List Value) (σ : zk_S) (sz k c : Nat), zk_run E (zk_VT E) M_X4_sharesWith (C_X4_sharesWith E) P PX K (n + 1) 50 [l0, l1] (.ref a :: r) (σ, sz, k, c) = zk_fld (zk_view E σ a) [3] 3 (fun v => zk_run E (zk_VT E) M_X4_sharesWith (C_X4_sharesWith E) P PX K n 53 [l0, l1] (v :: r) (σ, sz, k, c))) ∧
  (∀ (n : Nat) (l1 : Option Value) (y0 : Value) (r : List Value) (σ : zk_S) (sz k c : Nat), zk_run E (zk_VT E) M_X4_sharesWith (C_X4_sharesWith E) P PX K (n + 1) 53 [some y0, l1] r (σ, sz, k, c) = (zk_isr y0 ∧ zk_run E (zk_VT E) M_X4_sharesWith (C_X4_sharesWith E) P PX K n 54 [some y0, l1] (y0 :: r) (σ, sz, k, c))) ∧
  (∀ (n : Nat) (l0 l1 : Option Value) (a : Nat) (r : List Value) (σ : zk_S) (sz k c : Nat), zk_run E (zk_VT E) M_X4_sharesWith (C_X4_sharesWith E) P PX K (n + 1) 54 [l0, l1] (.ref a :: r) (σ, sz, k, c) = zk_fld (zk_view E σ a) [3] 3 (fun v => zk_run E (zk_VT E) M_X4_sharesWith (C_X4_sharesWith E) P PX K n 57 [l0, l1] (v :: r) (σ, sz, k, c))) ∧
  (∀ (n : Nat) (l1 : Option Value) (y0 : Value) (r : List Value) (σ : zk_S) (sz k c : Nat), zk_run E (zk_VT E) M_X4_sharesWith (C_X4_sharesWith E) P PX K (n + 1) 57 [some y0, l1] r (σ, sz, k, c) = (zk_isr y0 ∧ zk_run E (zk_VT E) M_X4_sharesWith (C_X4_sharesWith E) P PX K n 58 [some y0, l1] (y0 :: r) (σ, sz, k, c))) ∧
  (∀ (n : Nat) (l0 l1 : Option Value) (a : Nat) (r : List Value) (σ : zk_S) (sz k c : Nat), zk_run E (zk_VT E) M_X4_sharesWith (C_X4_sharesWith E) P PX K (n + 1) 58 [l0, l1] (.ref a :: r) (σ, sz, k, c) = zk_fld (zk_view E σ a) [3] 4 (fun v => zk_run E (zk_VT E) M_X4_sharesWith (C_X4_sharesWith E) P PX K n 61 [l0, l1] (v :: r) (σ, sz, k, c))) ∧
  (∀ (n : Nat) (l0 l1 : Option Value) (x y : Int32) (r : List Value) (σ : zk_S) (sz k c : Nat), zk_run E (zk_VT E) M_X4_sharesWith (C_X4_sharesWith E) P PX K (n + 1) 61 [l0, l1] (.int y :: .int x :: r) (σ, sz, k, c) = zk_run E (zk_VT E) M_X4_sharesWith (C_X4_sharesWith E) P PX K n 62 [l0, l1] (.int (x + y) :: r) (σ, sz, k, c)) ∧
  (∀ (n : Nat) (l0 l1 : Option Value) (x y : Int32) (r : List Value) (σ : zk_S) (sz k c : Nat), zk_run E (zk_VT E) M_X4_sharesWith (C_X4_sharesWith E) P PX K (n + 1) 62 [l0, l1] (.int y :: .int x :: r) (σ, sz, k, c) = ((y ≤ x → zk_run E (zk_VT E) M_X4_sharesWith (C_X4_sharesWith E) P PX K n 69 [l0, l1] r (σ, sz, k, c)) ∧ (¬ (y ≤ x) → zk_run E (zk_VT E) M_X4_sharesWith (C_X4_sharesWith E) P PX K n 65 [l0, l1] r (σ, sz, k, c)))) ∧
  (∀ (n : Nat) (l0 l1 : Option Value)  (r : List Value) (σ : zk_S) (sz k c : Nat), zk_run E (zk_VT E) M_X4_sharesWith (C_X4_sharesWith E) P PX K (n + 1) 65 [l0, l1] r (σ, sz, k, c) = zk_run E (zk_VT E) M_X4_sharesWith (C_X4_sharesWith E) P PX K n 66 [l0, l1] (.int (1) :: r) (σ, sz, k, c)) ∧
  (∀ (n : Nat) (l0 l1 : Option Value)  (r : List Value) (σ : zk_S) (sz k c : Nat), zk_run E (zk_VT E) M_X4_sharesWith (C_X4_sharesWith E) P PX K (n + 1) 66 [l0, l1] r (σ, sz, k, c) = zk_run E (zk_VT E) M_X4_sharesWith (C_X4_sharesWith E) P PX K n 70 [l0, l1] r (σ, sz, k, c)) ∧
  (∀ (n : Nat) (l0 l1 : Option Value)  (r : List Value) (σ : zk_S) (sz k c : Nat), zk_run E (zk_VT E) M_X4_sharesWith (C_X4_sharesWith E) P PX K (n + 1) 69 [l0, l1] r (σ, sz, k, c) = zk_run E (zk_VT E) M_X4_sharesWith (C_X4_sharesWith E) P PX K n 70 [l0, l1] (.int (0) :: r) (σ, sz, k, c)) ∧
  (∀ (n : Nat) (l0 l1 : Option Value) (x : Int32)  (σ : zk_S) (sz k c : Nat), zk_run E (zk_VT E) M_X4_sharesWith (C_X4_sharesWith E) P PX K (n + 1) 70 [l0, l1] [.int x] (σ, sz, k, c) = (zk_nok (some (.boolean)) x ∧ P (some (.int x)) σ sz ∧ k ≤ 0 ∧ c ≤ 0)) ∧
  (∀ (n : Nat) (l0 l1 : Option Value) (r : List Value) (w : zk_W zk_S), zk_go E (zk_VT E) M_X4_sharesWith (C_X4_sharesWith E) P PX K n 0 [l0, l1] r w = zk_run E (zk_VT E) M_X4_sharesWith (C_X4_sharesWith E) P PX K (n + 1) 0 [l0, l1] r w) := ⟨by intros; rfl, by intros; rfl, by intros; rfl, by intros; rfl, by intros; rfl, by intros; rfl, by intros; rfl, by intros; rfl, by intros; rfl, by intros; rfl, by intros; rfl, by intros; rfl, by intros; rfl, by intros; rfl, by intros; rfl, by intros; rfl, by intros; rfl, by intros; rfl, by intros; rfl, by intros; rfl, by intros; rfl, by intros; rfl, by intros; rfl, by intros; rfl, by intros; rfl, by intros; rfl, by intros; rfl, by intros; rfl, by intros; rfl, by intros; rfl, by intros; rfl, by intros; rfl, by intros; rfl, by intros; rfl, by intros; rfl, by intros; rfl⟩
theorem vc_X4_sharesWith (E : zk_E) : zk_VC E (zk_VT E) M_X4_sharesWith (C_X4_sharesWith E) 2 (sp_X4_sharesWith E) := by
  intro av σ sz P PX h
  obtain ⟨J, N, Q, O, U⟩ := σ
  unfold sp_X4_sharesWith at h
  split at h
  case h_2 => exact h.elim
  rename_i a b
  refine ⟨Nat.le_of_ble_eq_true rfl, fun G hG => ?_⟩
  change G 0 [some (.ref (a)), some (.ref b)] [] ((J, N, Q, O, U), sz, 0, 0)
  try dsimp only at h
  obtain ⟨ha, ⟨p0, p1, p2, p3, p4, hO⟩, hb, ⟨q0, q1, q2, q3, q4, hO2⟩, h⟩ := h
  rw [hO, hO2] at h
  unfold m_shw p_sh at h
  simp only [fI_P] at h
  unfold cP at hO hO2
  rcases (Decidable.em (p0 = q0)).imp eq_true eq_false with e0 | e0
  · rcases (Decidable.em (p1 = q1)).imp eq_true eq_false with e1 | e1
    · rcases (Decidable.em (p2 = q2)).imp eq_true eq_false with e2 | e2
      · by_cases e3 : p3 < q3 + q4
        · have d3 : (q3 + q4 ≤ p3) = False := eq_false (Int32.not_le.mpr e3)
          by_cases e4 : q3 < p3 + p4
          · have d4 : (p3 + p4 ≤ q3) = False := eq_false (Int32.not_le.mpr e4)
            simp only [e0, e1, e2, e3, e4, decide_true, Bool.and_self] at h
            (refine hG 900 _ _ _ _ ?_; simp only [r_X4_sharesWith, zk_vd ha, zk_vd hb, hO, hO2, e0, e1, e2, d3, d4])
            exact h
          · have d4 : (p3 + p4 ≤ q3) = True := eq_true (Int32.not_lt.mp e4)
            simp only [e0, e1, e2, e3, e4, decide_true, decide_false, Bool.and_false] at h
            (refine hG 900 _ _ _ _ ?_; simp only [r_X4_sharesWith, zk_vd ha, zk_vd hb, hO, hO2, e0, e1, e2, d3, d4])
            exact h
        · have d3 : (q3 + q4 ≤ p3) = True := eq_true (Int32.not_lt.mp e3)
          simp only [e0, e1, e2, e3, decide_true, decide_false, Bool.and_false, Bool.false_and] at h
          (refine hG 900 _ _ _ _ ?_; simp only [r_X4_sharesWith, zk_vd ha, zk_vd hb, hO, hO2, e0, e1, e2, d3])
          exact h
      · simp only [e0, e1, e2, decide_true, decide_false, Bool.and_false, Bool.false_and] at h
        (refine hG 900 _ _ _ _ ?_; simp only [r_X4_sharesWith, zk_vd ha, zk_vd hb, hO, hO2, e0, e1, e2])
        exact h
    · simp only [e0, e1, decide_true, decide_false, Bool.and_false, Bool.false_and] at h
      (refine hG 900 _ _ _ _ ?_; simp only [r_X4_sharesWith, zk_vd ha, zk_vd hb, hO, hO2, e0, e1])
      exact h
  · simp only [e0, decide_false, Bool.false_and] at h
    (refine hG 900 _ _ _ _ ?_; simp only [r_X4_sharesWith, zk_vd ha, zk_vd hb, hO, hO2, e0])
    exact h
theorem ct_X4_sharesWith {l : Launch} (hl : l.stackTraces = false) (E : zk_E) : zk_C l E (zk_VT E) yX4_sharesWith cX4_sharesWith 2 (some (.boolean)) rm_X4_sharesWith (sp_X4_sharesWith E) := by
  refine zk_meth (M := M_X4_sharesWith) (C := C_X4_sharesWith E) hl (by decide +kernel) rfl (fun _ _ => rfl) (zk_VT_ok E) MO_X4_sharesWith TO_X4_sharesWith THo_X4_sharesWith ?_ (vc_X4_sharesWith E)
  exact fun p e s m args below meth c X pc n mc ms sp2 h => absurd (zk_lka_mem h) List.not_mem_nil


