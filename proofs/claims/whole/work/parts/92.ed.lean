/-! the law's wrappers of the class's methods -/
def WO (E : zk_E) (σ : zk_S) (sz : Nat) (σ2 : zk_S) (sz2 : Nat) (k : Int32) (v : Int64) (J N : Nat → Nat → Int32) : Prop := (k = 0 ∧ σ2.2.2.2.2 0 = v) ∧ LC E σ sz σ2 sz2 J N
def WN (E : zk_E) (σ : zk_S) (sz : Nat) (σ2 : zk_S) (sz2 : Nat) (k t : Int32) : Prop := k = t ∧ LC E σ sz σ2 sz2 σ.1 σ.2.1
def CD (b : Bool) (A B : Prop) : Prop := (b = false ∧ A) ∨ (b = true ∧ B)
theorem hc_q : Nat.beq 4 4 = true ∧ Nat.beq 5 5 = true ∧ Nat.beq 6 6 = true ∧ Nat.beq 7 7 = true ∧ Nat.beq 8 8 = true ∧ Nat.beq 9 9 = true ∧ Nat.beq 10 10 = true ∧ Nat.beq 11 11 = true ∧ Nat.beq 12 12 = true ∧ Nat.beq 13 13 = true := ⟨rfl, rfl, rfl, rfl, rfl, rfl, rfl, rfl, rfl, rfl⟩
theorem hc_s : ("java/lang/IllegalArgumentException" = "java/lang/IndexOutOfBoundsException") = False ∧ ("java/lang/IllegalStateException" = "java/lang/IndexOutOfBoundsException") = False ∧ ("java/lang/IllegalStateException" = "java/lang/IllegalArgumentException") = False ∧ ("java/lang/IndexOutOfBoundsException" = "java/lang/IllegalArgumentException") = False := by decide
theorem hc_v : vp_in 0 1 = True := by
  have h := vp_in_nI (n := 0) (N := 1) (by decide) (by decide)
  exact eq_true h
theorem hc_10 : ((1 : Int32) = 0) = False := by decide
theorem up_L (U : Nat → Int64) (x : Int64) : vp_updL U 0 x 0 = x := if_pos rfl
theorem hi64_0 : (0 : Int32).toInt64 = 0 := by decide
theorem hi64_1 : (1 : Int32).toInt64 = 1 := by decide
theorem LC.sh {E : zk_E} {J N : Nat → Nat → Int32} {Q : Nat → Nat → Option Nat} {O O2 : zk_Hp} {U U2 : Nat → Int64} {sz : Nat} {g : Nat → Int32} (hxr : XR E sz (zk_uj J 0 4 0, N, Q, O2, U) J (zk_un N 36 g) (fl0 N)) : LC E (J, N, Q, O, U) sz (zk_uj J 0 4 0, N, Q, O2, U2) sz J (zk_un N 36 g) := by
  have e : fl0 (zk_un N 36 g) = fl0 N := by
    funext d
    unfold fl0 zk_un
    rw [if_neg (by decide)]
  refine ⟨Nat.le_refl _, uj_22 (by decide), fun _ _ => rfl, ?_, Or.inl rfl⟩
  rw [e]
  exact hxr.grow (fun _ _ => rfl) (Nat.le_refl _)
theorem b_01 (b : Bool) : zk_b b = 0 ∨ zk_b b = 1 := by cases b <;> simp [zk_b]
def R_addRoom (E : zk_E) (σ : zk_S) (sz : Nat) (fl : Int32) (x : Int32) (y : Int32) (w : Int32) (hh : Int32) (u : Int32) (k : Int32) (σ2 : zk_S) (sz2 : Nat) : Prop := (¬ c_room σ.1 σ.2.1 fl x y w hh u = 0 ∧ WN E σ sz σ2 sz2 k (c_room σ.1 σ.2.1 fl x y w hh u)) ∨ (c_room σ.1 σ.2.1 fl x y w hh u = 0 ∧ WO E σ sz σ2 sz2 k (nI (m_nr σ.1)).toInt64 (uJ_room σ.1) (uN_room σ.2.1 (m_nr σ.1) fl x y w hh u))
def sp_L_addRoom (E : zk_E) : zk_Sp zk_S := fun av σ sz P PX => match av with
  | [.ref a, .int fl, .int x, .int y, .int w, .int hh, .int u, .ref o] => a = zk_ad E 0 ∧ o = zk_ad E 54 ∧ LI E sz σ ∧ ∀ k σ2 sz2, R_addRoom E σ sz fl x y w hh u k σ2 sz2 → P (some (.int k)) σ2 sz2
  | _ => False
theorem spe_L_addRoom (E : zk_E) (a : Nat) (fl : Int32) (x : Int32) (y : Int32) (w : Int32) (hh : Int32) (u : Int32) (o : Nat) (σ : zk_S) (sz : Nat) (P : zk_P zk_S) (PX : zk_X zk_S) : sp_L_addRoom E [.ref a, .int fl, .int x, .int y, .int w, .int hh, .int u, .ref o] σ sz P PX = (a = zk_ad E 0 ∧ o = zk_ad E 54 ∧ LI E sz σ ∧ ∀ k σ2 sz2, R_addRoom E σ sz fl x y w hh u k σ2 sz2 → P (some (.int k)) σ2 sz2) := propext Iff.rfl
def C_L_addRoom (E : zk_E) : zk_Cl zk_S := zk_lka [(13, 7, 4, 26, zk_rv (zk_VT E) (fun ci => Nat.beq ci 9) (sp_X10_addRoom E))]
theorem r_L_addRoom (E : zk_E) (P : zk_P zk_S) (PX : zk_X zk_S) (K : Nat → zk_L → List Value → zk_W zk_S → Prop) : (∀ (n : Nat) (l0 l1 l2 l3 l4 l5 l6 l8 : Option Value) (y7 : Value) (r : List Value) (σ : zk_S) (sz k c : Nat), zk_run E (zk_VT E) M_L_addRoom (C_L_addRoom E) P PX K (n + 1) 0 [l0, l1, l2, l3, l4, l5, l6, some y7, l8] r (σ, sz, k, c) = (zk_isr y7 ∧ zk_run E (zk_VT E) M_L_addRoom (C_L_addRoom E) P PX K n 2 [l0, l1, l2, l3, l4, l5, l6, some y7, l8] (y7 :: r) (σ, sz, k, c))) ∧
  (∀ (n : Nat) (l0 l1 l2 l3 l4 l5 l6 l7 l8 : Option Value)  (r : List Value) (σ : zk_S) (sz k c : Nat), zk_run E (zk_VT E) M_L_addRoom (C_L_addRoom E) P PX K (n + 1) 2 [l0, l1, l2, l3, l4, l5, l6, l7, l8] r (σ, sz, k, c) = zk_run E (zk_VT E) M_L_addRoom (C_L_addRoom E) P PX K n 3 [l0, l1, l2, l3, l4, l5, l6, l7, l8] (.int (0) :: r) (σ, sz, k, c)) ∧
  (∀ (n : Nat) (l1 l2 l3 l4 l5 l6 l7 l8 : Option Value) (y0 : Value) (r : List Value) (σ : zk_S) (sz k c : Nat), zk_run E (zk_VT E) M_L_addRoom (C_L_addRoom E) P PX K (n + 1) 3 [some y0, l1, l2, l3, l4, l5, l6, l7, l8] r (σ, sz, k, c) = (zk_isr y0 ∧ zk_run E (zk_VT E) M_L_addRoom (C_L_addRoom E) P PX K n 4 [some y0, l1, l2, l3, l4, l5, l6, l7, l8] (y0 :: r) (σ, sz, k, c))) ∧
  (∀ (n : Nat) (l0 l2 l3 l4 l5 l6 l7 l8 : Option Value) (y1 : Int32) (r : List Value) (σ : zk_S) (sz k c : Nat), zk_run E (zk_VT E) M_L_addRoom (C_L_addRoom E) P PX K (n + 1) 4 [l0, some (.int y1), l2, l3, l4, l5, l6, l7, l8] r (σ, sz, k, c) = zk_run E (zk_VT E) M_L_addRoom (C_L_addRoom E) P PX K n 5 [l0, some (.int y1), l2, l3, l4, l5, l6, l7, l8] (.int y1 :: r) (σ, sz, k, c)) ∧
  (∀ (n : Nat) (l0 l1 l3 l4 l5 l6 l7 l8 : Option Value) (y2 : Int32) (r : List Value) (σ : zk_S) (sz k c : Nat), zk_run E (zk_VT E) M_L_addRoom (C_L_addRoom E) P PX K (n + 1) 5 [l0, l1, some (.int y2), l3, l4, l5, l6, l7, l8] r (σ, sz, k, c) = zk_run E (zk_VT E) M_L_addRoom (C_L_addRoom E) P PX K n 6 [l0, l1, some (.int y2), l3, l4, l5, l6, l7, l8] (.int y2 :: r) (σ, sz, k, c)) ∧
  (∀ (n : Nat) (l0 l1 l2 l4 l5 l6 l7 l8 : Option Value) (y3 : Int32) (r : List Value) (σ : zk_S) (sz k c : Nat), zk_run E (zk_VT E) M_L_addRoom (C_L_addRoom E) P PX K (n + 1) 6 [l0, l1, l2, some (.int y3), l4, l5, l6, l7, l8] r (σ, sz, k, c) = zk_run E (zk_VT E) M_L_addRoom (C_L_addRoom E) P PX K n 7 [l0, l1, l2, some (.int y3), l4, l5, l6, l7, l8] (.int y3 :: r) (σ, sz, k, c)) ∧
  (∀ (n : Nat) (l0 l1 l2 l3 l5 l6 l7 l8 : Option Value) (y4 : Int32) (r : List Value) (σ : zk_S) (sz k c : Nat), zk_run E (zk_VT E) M_L_addRoom (C_L_addRoom E) P PX K (n + 1) 7 [l0, l1, l2, l3, some (.int y4), l5, l6, l7, l8] r (σ, sz, k, c) = zk_run E (zk_VT E) M_L_addRoom (C_L_addRoom E) P PX K n 9 [l0, l1, l2, l3, some (.int y4), l5, l6, l7, l8] (.int y4 :: r) (σ, sz, k, c)) ∧
  (∀ (n : Nat) (l0 l1 l2 l3 l4 l6 l7 l8 : Option Value) (y5 : Int32) (r : List Value) (σ : zk_S) (sz k c : Nat), zk_run E (zk_VT E) M_L_addRoom (C_L_addRoom E) P PX K (n + 1) 9 [l0, l1, l2, l3, l4, some (.int y5), l6, l7, l8] r (σ, sz, k, c) = zk_run E (zk_VT E) M_L_addRoom (C_L_addRoom E) P PX K n 11 [l0, l1, l2, l3, l4, some (.int y5), l6, l7, l8] (.int y5 :: r) (σ, sz, k, c)) ∧
  (∀ (n : Nat) (l0 l1 l2 l3 l4 l5 l7 l8 : Option Value) (y6 : Int32) (r : List Value) (σ : zk_S) (sz k c : Nat), zk_run E (zk_VT E) M_L_addRoom (C_L_addRoom E) P PX K (n + 1) 11 [l0, l1, l2, l3, l4, l5, some (.int y6), l7, l8] r (σ, sz, k, c) = zk_run E (zk_VT E) M_L_addRoom (C_L_addRoom E) P PX K n 13 [l0, l1, l2, l3, l4, l5, some (.int y6), l7, l8] (.int y6 :: r) (σ, sz, k, c)) ∧
  (∀ (n : Nat) (l0 l1 l2 l3 l4 l5 l6 l7 l8 : Option Value) (v0 : Value) (v1 : Value) (v2 : Value) (v3 : Value) (v4 : Value) (v5 : Value) (v6 : Value) (v7 : Value) (v8 : Value)  (σ : zk_S) (sz k c : Nat), zk_run E (zk_VT E) M_L_addRoom (C_L_addRoom E) P PX K (n + 1) 13 [l0, l1, l2, l3, l4, l5, l6, l7, l8] [v0, v1, v2, v3, v4, v5, v6, v7, v8] (σ, sz, k, c) = (k + 4 ≤ 4 ∧ c + 26 ≤ 26 ∧ (zk_rv (zk_VT E) (fun ci => Nat.beq ci 9) (sp_X10_addRoom E)) [v6, v5, v4, v3, v2, v1, v0] σ sz (fun v s2 z2 => zk_run E (zk_VT E) M_L_addRoom (C_L_addRoom E) P PX K n 16 [l0, l1, l2, l3, l4, l5, l6, l7, l8] (zk_psh v [v7, v8]) (s2, z2, k + 4, c + 26)) (fun X s2 z2 => (match (match Nat.beq 13 13 with
  | true => if X = "java/lang/IllegalArgumentException" then some 21 else if X = "java/lang/IllegalStateException" then some 25 else none
  | false => none : Option Nat) with
    | some hp => ∀ q : Nat, zk_run E (zk_VT E) M_L_addRoom (C_L_addRoom E) P PX K n hp [l0, l1, l2, l3, l4, l5, l6, l7, l8] [.ref q] (s2, z2, k + 4, c + 26)
    | none => PX X s2 z2)))) ∧
  (∀ (n : Nat) (l0 l1 l2 l3 l4 l5 l6 l7 l8 : Option Value) (x : Int32) (r : List Value) (σ : zk_S) (sz k c : Nat), zk_run E (zk_VT E) M_L_addRoom (C_L_addRoom E) P PX K (n + 1) 16 [l0, l1, l2, l3, l4, l5, l6, l7, l8] (.int x :: r) (σ, sz, k, c) = zk_run E (zk_VT E) M_L_addRoom (C_L_addRoom E) P PX K n 17 [l0, l1, l2, l3, l4, l5, l6, l7, l8] (.long (x.toInt64) :: r) (σ, sz, k, c)) ∧
  (∀ (n : Nat) (l0 l1 l2 l3 l4 l5 l6 l7 l8 : Option Value) (a : Nat) (i : Int32) (x : Int64) (r : List Value) (σ : zk_S) (sz k c : Nat), zk_run E (zk_VT E) M_L_addRoom (C_L_addRoom E) P PX K (n + 1) 17 [l0, l1, l2, l3, l4, l5, l6, l7, l8] (.long x :: .int i :: .ref a :: r) (σ, sz, k, c) = zk_lst (zk_view E σ a) (zk_ar E 2) i x (fun e => zk_wrok E σ a e ∧ zk_run E (zk_VT E) M_L_addRoom (C_L_addRoom E) P PX K n 18 [l0, l1, l2, l3, l4, l5, l6, l7, l8] r (zk_wr E σ a e, sz, k, c))) ∧
  (∀ (n : Nat) (l0 l1 l2 l3 l4 l5 l6 l7 l8 : Option Value)  (r : List Value) (σ : zk_S) (sz k c : Nat), zk_run E (zk_VT E) M_L_addRoom (C_L_addRoom E) P PX K (n + 1) 18 [l0, l1, l2, l3, l4, l5, l6, l7, l8] r (σ, sz, k, c) = zk_run E (zk_VT E) M_L_addRoom (C_L_addRoom E) P PX K n 29 [l0, l1, l2, l3, l4, l5, l6, l7, l8] r (σ, sz, k, c)) ∧
  (∀ (n : Nat) (l0 l1 l2 l3 l4 l5 l6 l7 l8 : Option Value) (x : Value) (r : List Value) (σ : zk_S) (sz k c : Nat), zk_run E (zk_VT E) M_L_addRoom (C_L_addRoom E) P PX K (n + 1) 21 [l0, l1, l2, l3, l4, l5, l6, l7, l8] (x :: r) (σ, sz, k, c) = (zk_isr x ∧ zk_run E (zk_VT E) M_L_addRoom (C_L_addRoom E) P PX K n 23 [l0, l1, l2, l3, l4, l5, l6, zk_kl l7, some (x)] r (σ, sz, k, c))) ∧
  (∀ (n : Nat) (l0 l1 l2 l3 l4 l5 l6 l7 l8 : Option Value)  (r : List Value) (σ : zk_S) (sz k c : Nat), zk_run E (zk_VT E) M_L_addRoom (C_L_addRoom E) P PX K (n + 1) 23 [l0, l1, l2, l3, l4, l5, l6, l7, l8] r (σ, sz, k, c) = zk_run E (zk_VT E) M_L_addRoom (C_L_addRoom E) P PX K n 24 [l0, l1, l2, l3, l4, l5, l6, l7, l8] (.int (1) :: r) (σ, sz, k, c)) ∧
  (∀ (n : Nat) (l0 l1 l2 l3 l4 l5 l6 l7 l8 : Option Value) (x : Int32)  (σ : zk_S) (sz k c : Nat), zk_run E (zk_VT E) M_L_addRoom (C_L_addRoom E) P PX K (n + 1) 24 [l0, l1, l2, l3, l4, l5, l6, l7, l8] [.int x] (σ, sz, k, c) = (zk_nok (some (.int)) x ∧ P (some (.int x)) σ sz ∧ k ≤ 4 ∧ c ≤ 26)) ∧
  (∀ (n : Nat) (l0 l1 l2 l3 l4 l5 l6 l7 l8 : Option Value) (x : Value) (r : List Value) (σ : zk_S) (sz k c : Nat), zk_run E (zk_VT E) M_L_addRoom (C_L_addRoom E) P PX K (n + 1) 25 [l0, l1, l2, l3, l4, l5, l6, l7, l8] (x :: r) (σ, sz, k, c) = (zk_isr x ∧ zk_run E (zk_VT E) M_L_addRoom (C_L_addRoom E) P PX K n 27 [l0, l1, l2, l3, l4, l5, l6, zk_kl l7, some (x)] r (σ, sz, k, c))) ∧
  (∀ (n : Nat) (l0 l1 l2 l3 l4 l5 l6 l7 l8 : Option Value)  (r : List Value) (σ : zk_S) (sz k c : Nat), zk_run E (zk_VT E) M_L_addRoom (C_L_addRoom E) P PX K (n + 1) 27 [l0, l1, l2, l3, l4, l5, l6, l7, l8] r (σ, sz, k, c) = zk_run E (zk_VT E) M_L_addRoom (C_L_addRoom E) P PX K n 28 [l0, l1, l2, l3, l4, l5, l6, l7, l8] (.int (2) :: r) (σ, sz, k, c)) ∧
  (∀ (n : Nat) (l0 l1 l2 l3 l4 l5 l6 l7 l8 : Option Value) (x : Int32)  (σ : zk_S) (sz k c : Nat), zk_run E (zk_VT E) M_L_addRoom (C_L_addRoom E) P PX K (n + 1) 28 [l0, l1, l2, l3, l4, l5, l6, l7, l8] [.int x] (σ, sz, k, c) = (zk_nok (some (.int)) x ∧ P (some (.int x)) σ sz ∧ k ≤ 4 ∧ c ≤ 26)) ∧
  (∀ (n : Nat) (l0 l1 l2 l3 l4 l5 l6 l7 l8 : Option Value)  (r : List Value) (σ : zk_S) (sz k c : Nat), zk_run E (zk_VT E) M_L_addRoom (C_L_addRoom E) P PX K (n + 1) 29 [l0, l1, l2, l3, l4, l5, l6, l7, l8] r (σ, sz, k, c) = zk_run E (zk_VT E) M_L_addRoom (C_L_addRoom E) P PX K n 30 [l0, l1, l2, l3, l4, l5, l6, l7, l8] (.int (0) :: r) (σ, sz, k, c)) ∧
  (∀ (n : Nat) (l0 l1 l2 l3 l4 l5 l6 l7 l8 : Option Value) (x : Int32)  (σ : zk_S) (sz k c : Nat), zk_run E (zk_VT E) M_L_addRoom (C_L_addRoom E) P PX K (n + 1) 30 [l0, l1, l2, l3, l4, l5, l6, l7, l8] [.int x] (σ, sz, k, c) = (zk_nok (some (.int)) x ∧ P (some (.int x)) σ sz ∧ k ≤ 4 ∧ c ≤ 26)) ∧
  (∀ (n : Nat) (l0 l1 l2 l3 l4 l5 l6 l7 l8 : Option Value) (r : List Value) (w : zk_W zk_S), zk_go E (zk_VT E) M_L_addRoom (C_L_addRoom E) P PX K n 0 [l0, l1, l2, l3, l4, l5, l6, l7, l8] r w = zk_run E (zk_VT E) M_L_addRoom (C_L_addRoom E) P PX K (n + 1) 0 [l0, l1, l2, l3, l4, l5, l6, l7, l8] r w) := ⟨by intros; rfl, by intros; rfl, by intros; rfl, by intros; rfl, by intros; rfl, by intros; rfl, by intros; rfl, by intros; rfl, by intros; rfl, by intros; rfl, by intros; rfl, by intros; rfl, by intros; rfl, by intros; rfl, by intros; rfl, by intros; rfl, by intros; rfl, by intros; rfl, by intros; rfl, by intros; rfl, by intros; rfl, by intros; rfl⟩
set_option maxHeartbeats 4000000 in
theorem vc_L_addRoom (E : zk_E) : zk_VCH E (zk_VT E) M_L_addRoom (C_L_addRoom E) 9 (sp_L_addRoom E) := by
  intro av σ sz P h
  obtain ⟨J, N, Q, O, U⟩ := σ
  unfold sp_L_addRoom at h
  split at h
  case h_2 => exact h.elim
  rename_i a fl x y w hh u o
  refine ⟨Nat.le_of_ble_eq_true rfl, fun G hG => ?_⟩
  change G 0 [some (.ref a), some (.int fl), some (.int x), some (.int y), some (.int w), some (.int hh), some (.int u), some (.ref o), none] [] ((J, N, Q, O, U), sz, 0, 0)
  try dsimp only at h
  obtain ⟨rfl, rfl, hli, h⟩ := h
  have hms := hli.2.1.1
  unfold R_addRoom at h
  dsimp only at h
  (refine hG 900 _ _ _ _ ?_; simp only [r_L_addRoom, zk_kl_none, zk_kl_int, zk_kl_ref, zk_kl_null, zk_kl_long, zk_kl_rf, zk_isr_ref, zk_isr_null, zk_isr_rf9, zk_c1_int, zk_c1_ref, zk_c1_null, zk_c1_rf, zk_psh_some, zk_psh_none, zk_nok_int, zk_nok_bool0, zk_nok_bool1, zk_nok_b, zk_fok_0, zk_fok_1, zk_fok_2, zk_fok_n, zk_fok_rf, zb_f, zb_p, zb_i, zb_a, zb_s, zk_nth_0, zk_nth_s, zk_fld_o, zk_put_o, zk_rv_eq, zk_ri_eq, zk_is_o, List.mem_cons, List.not_mem_nil, or_false, false_or, or_true, true_or, and_true, true_and, not_false_iff, not_true_eq_false, true_implies, false_implies, imp_self, implies_true, forall_const, zk_lit, zk_uj_ap, zk_un_ap, zk_un_un, zk_uj_uj, Nat.reduceEqDiff, eq_self, zk_bq, Bool.true_or, Bool.false_or, Nat.le_refl, Nat.zero_add, Nat.add_zero, Nat.reduceAdd, Nat.reduceLeDiff, Nat.le_zero_eq, and_self, and_false, false_and, ite_true, ite_false, Nat.zero_le, List.length_cons, List.length_nil, Option.some.injEq, forall_eq', reduceCtorEq, spe_X10_addRoom])
  refine ⟨hli.1, J, N, hli.2, ?_⟩
  refine ⟨fun hc => ?_, fun hc => ?_, fun hc => ?_⟩
  · intro O2 z2 hz hO
    simp only [r_L_addRoom, zk_kl_none, zk_kl_int, zk_kl_ref, zk_kl_null, zk_kl_long, zk_kl_rf, zk_isr_ref, zk_isr_null, zk_isr_rf9, zk_c1_int, zk_c1_ref, zk_c1_null, zk_c1_rf, zk_psh_some, zk_psh_none, zk_nok_int, zk_nok_bool0, zk_nok_bool1, zk_nok_b, zk_fok_0, zk_fok_1, zk_fok_2, zk_fok_n, zk_fok_rf, zb_f, zb_p, zb_i, zb_a, zb_s, zk_nth_0, zk_nth_s, zk_fld_o, zk_put_o, zk_rv_eq, zk_ri_eq, zk_is_o, List.mem_cons, List.not_mem_nil, or_false, false_or, or_true, true_or, and_true, true_and, not_false_iff, not_true_eq_false, true_implies, false_implies, imp_self, implies_true, forall_const, zk_lit, zk_uj_ap, zk_un_ap, zk_un_un, zk_uj_uj, Nat.reduceEqDiff, eq_self, zk_bq, Bool.true_or, Bool.false_or, Nat.le_refl, Nat.zero_add, Nat.add_zero, Nat.reduceAdd, Nat.reduceLeDiff, Nat.le_zero_eq, and_self, and_false, false_and, ite_true, ite_false, Nat.zero_le, List.length_cons, List.length_nil, Option.some.injEq, forall_eq', reduceCtorEq, hc_q, hc_s, hc_v, hc_i]
    exact h 1 _ _ (Or.inl ⟨fun w => absurd (hc.symm.trans w) (by decide), hc.symm, LC.zy hli hO hz⟩)
  · intro O2 z2 hz hO
    simp only [r_L_addRoom, zk_kl_none, zk_kl_int, zk_kl_ref, zk_kl_null, zk_kl_long, zk_kl_rf, zk_isr_ref, zk_isr_null, zk_isr_rf9, zk_c1_int, zk_c1_ref, zk_c1_null, zk_c1_rf, zk_psh_some, zk_psh_none, zk_nok_int, zk_nok_bool0, zk_nok_bool1, zk_nok_b, zk_fok_0, zk_fok_1, zk_fok_2, zk_fok_n, zk_fok_rf, zb_f, zb_p, zb_i, zb_a, zb_s, zk_nth_0, zk_nth_s, zk_fld_o, zk_put_o, zk_rv_eq, zk_ri_eq, zk_is_o, List.mem_cons, List.not_mem_nil, or_false, false_or, or_true, true_or, and_true, true_and, not_false_iff, not_true_eq_false, true_implies, false_implies, imp_self, implies_true, forall_const, zk_lit, zk_uj_ap, zk_un_ap, zk_un_un, zk_uj_uj, Nat.reduceEqDiff, eq_self, zk_bq, Bool.true_or, Bool.false_or, Nat.le_refl, Nat.zero_add, Nat.add_zero, Nat.reduceAdd, Nat.reduceLeDiff, Nat.le_zero_eq, and_self, and_false, false_and, ite_true, ite_false, Nat.zero_le, List.length_cons, List.length_nil, Option.some.injEq, forall_eq', reduceCtorEq, hc_q, hc_s, hc_v, hc_i]
    exact h 2 _ _ (Or.inl ⟨fun w => absurd (hc.symm.trans w) (by decide), hc.symm, LC.zy hli hO hz⟩)
  · intro J2 N2 Q2 O2 z2 hz h04 hJ hN hxr
    simp only [r_L_addRoom, zk_kl_none, zk_kl_int, zk_kl_ref, zk_kl_null, zk_kl_long, zk_kl_rf, zk_isr_ref, zk_isr_null, zk_isr_rf9, zk_c1_int, zk_c1_ref, zk_c1_null, zk_c1_rf, zk_psh_some, zk_psh_none, zk_nok_int, zk_nok_bool0, zk_nok_bool1, zk_nok_b, zk_fok_0, zk_fok_1, zk_fok_2, zk_fok_n, zk_fok_rf, zb_f, zb_p, zb_i, zb_a, zb_s, zk_nth_0, zk_nth_s, zk_fld_o, zk_put_o, zk_rv_eq, zk_ri_eq, zk_is_o, List.mem_cons, List.not_mem_nil, or_false, false_or, or_true, true_or, and_true, true_and, not_false_iff, not_true_eq_false, true_implies, false_implies, imp_self, implies_true, forall_const, zk_lit, zk_uj_ap, zk_un_ap, zk_un_un, zk_uj_uj, Nat.reduceEqDiff, eq_self, zk_bq, Bool.true_or, Bool.false_or, Nat.le_refl, Nat.zero_add, Nat.add_zero, Nat.reduceAdd, Nat.reduceLeDiff, Nat.le_zero_eq, and_self, and_false, false_and, ite_true, ite_false, Nat.zero_le, List.length_cons, List.length_nil, Option.some.injEq, forall_eq', reduceCtorEq, hc_q, hc_s, hc_v, hc_i]
    exact h 0 _ _ (Or.inr ⟨hc, ⟨⟨rfl, up_L U _⟩, hz, hJ, hN, hxr.grow (fun _ _ => rfl) (Nat.le_refl _), Or.inl h04⟩⟩)
def hh_L_addRoom : List (Nat × Nat × Nat × Nat) := [(0, 18, 21, 13), (0, 18, 25, 15)]
theorem HO_L_addRoom : zk_HO RL hh_L_addRoom M_L_addRoom := by
  intro pc X hp h
  have h2 : (match Nat.beq pc 13 with | true => (if X = "java/lang/IllegalArgumentException" then some 21 else if X = "java/lang/IllegalStateException" then some 25 else none) | false => none : Option Nat) = some hp := h
  clear h
  split at h2
  · rename_i e
    have e := Nat.eq_of_beq_eq_true e
    subst e
    by_cases e0 : X = "java/lang/IllegalArgumentException"
    · subst e0
      rw [if_pos rfl] at h2
      cases h2
      exact ⟨[], ⟨0, 18, 21, 13⟩, [⟨0, 18, 25, 15⟩], rfl, fun _ h => absurd h List.not_mem_nil, by decide, by decide, rfl, "java/lang/IllegalArgumentException", zk_wi 394 (by decide +kernel) rfl, zk_tb 405 (by decide +kernel)⟩
    by_cases e1 : X = "java/lang/IllegalStateException"
    · subst e1
      rw [if_neg e0, if_pos rfl] at h2
      cases h2
      exact ⟨[⟨0, 18, 21, 13⟩], ⟨0, 18, 25, 15⟩, [], rfl, List.forall_mem_cons.mpr ⟨⟨by decide, "java/lang/IllegalArgumentException", zk_wi 394 (by decide +kernel) rfl, by decide⟩, fun _ h => absurd h List.not_mem_nil⟩, by decide, by decide, rfl, "java/lang/IllegalStateException", zk_wi 395 (by decide +kernel) rfl, zk_tb 473 (by decide +kernel)⟩
    rw [if_neg e0, if_neg e1] at h2
    cases h2
  · cases h2
theorem ct_L_addRoom {l : Launch} (hl : l.stackTraces = false) (E : zk_E) : zk_CH l E (zk_VT E) yL_addRoom cL_addRoom 9 (some (.int)) hh_L_addRoom rm_L_addRoom (sp_L_addRoom E) := by
  refine zk_methH (M := M_L_addRoom) (C := C_L_addRoom E) (by decide +kernel) rfl HO_L_addRoom (zk_VT_ok E) MO_L_addRoom TO_L_addRoom (fun _ => rfl) ?_ (vc_L_addRoom E)
  exact fun p e s m args below meth c X pc n mc ms sp2 h => by
    have h2 := zk_lka_mem h
    simp only [List.mem_cons, List.not_mem_nil, or_false, Prod.mk.injEq] at h2
    rcases h2 with ⟨rfl, rfl, rfl, rfl, rfl⟩
    exact zk_coV (idx := 7) X (ct_X10_addRoom hl E) (List.forall_mem_cons.mpr ⟨zk_wi 396 (by decide +kernel) rfl, List.forall_mem_cons.mpr ⟨zk_wi 397 (by decide +kernel) rfl, List.forall_mem_cons.mpr ⟨zk_wi 398 (by decide +kernel) rfl, List.forall_mem_cons.mpr ⟨zk_wi 1 (by decide +kernel) rfl, List.forall_mem_cons.mpr ⟨zk_wi 399 (by decide +kernel) rfl, fun _ h => absurd h List.not_mem_nil⟩⟩⟩⟩⟩) (fun ci h => by
      have h := Nat.eq_of_beq_eq_true h
      subst h
      exact ⟨_, _, rfl⟩) (by decide +kernel) ⟨by decide, by decide, by decide +kernel⟩ ⟨by decide, by decide⟩
def R_removeRoom (E : zk_E) (σ : zk_S) (sz : Nat) (r : Int32) (k : Int32) (σ2 : zk_S) (sz2 : Nat) : Prop := RD σ.1 σ.2.1 r (fun j => WO E σ sz σ2 sz2 k (nI (a_rm σ.1 σ.2.1 j)).toInt64 σ.1 (uN_rm σ.1 σ.2.1 j)) (WN E σ sz σ2 sz2 k 1)
def sp_L_removeRoom (E : zk_E) : zk_Sp zk_S := fun av σ sz P PX => match av with
  | [.ref a, .int r, .ref o] => a = zk_ad E 0 ∧ o = zk_ad E 54 ∧ LI E sz σ ∧ ∀ k σ2 sz2, R_removeRoom E σ sz r k σ2 sz2 → P (some (.int k)) σ2 sz2
  | _ => False
theorem spe_L_removeRoom (E : zk_E) (a : Nat) (r : Int32) (o : Nat) (σ : zk_S) (sz : Nat) (P : zk_P zk_S) (PX : zk_X zk_S) : sp_L_removeRoom E [.ref a, .int r, .ref o] σ sz P PX = (a = zk_ad E 0 ∧ o = zk_ad E 54 ∧ LI E sz σ ∧ ∀ k σ2 sz2, R_removeRoom E σ sz r k σ2 sz2 → P (some (.int k)) σ2 sz2) := propext Iff.rfl
def C_L_removeRoom (E : zk_E) : zk_Cl zk_S := zk_lka [(4, 2, 1, 6, zk_rv (zk_VT E) (fun ci => Nat.beq ci 9) (sp_X10_removeRoom E))]
theorem r_L_removeRoom (E : zk_E) (P : zk_P zk_S) (PX : zk_X zk_S) (K : Nat → zk_L → List Value → zk_W zk_S → Prop) : (∀ (n : Nat) (l0 l1 l3 : Option Value) (y2 : Value) (r : List Value) (σ : zk_S) (sz k c : Nat), zk_run E (zk_VT E) M_L_removeRoom (C_L_removeRoom E) P PX K (n + 1) 0 [l0, l1, some y2, l3] r (σ, sz, k, c) = (zk_isr y2 ∧ zk_run E (zk_VT E) M_L_removeRoom (C_L_removeRoom E) P PX K n 1 [l0, l1, some y2, l3] (y2 :: r) (σ, sz, k, c))) ∧
  (∀ (n : Nat) (l0 l1 l2 l3 : Option Value)  (r : List Value) (σ : zk_S) (sz k c : Nat), zk_run E (zk_VT E) M_L_removeRoom (C_L_removeRoom E) P PX K (n + 1) 1 [l0, l1, l2, l3] r (σ, sz, k, c) = zk_run E (zk_VT E) M_L_removeRoom (C_L_removeRoom E) P PX K n 2 [l0, l1, l2, l3] (.int (0) :: r) (σ, sz, k, c)) ∧
  (∀ (n : Nat) (l1 l2 l3 : Option Value) (y0 : Value) (r : List Value) (σ : zk_S) (sz k c : Nat), zk_run E (zk_VT E) M_L_removeRoom (C_L_removeRoom E) P PX K (n + 1) 2 [some y0, l1, l2, l3] r (σ, sz, k, c) = (zk_isr y0 ∧ zk_run E (zk_VT E) M_L_removeRoom (C_L_removeRoom E) P PX K n 3 [some y0, l1, l2, l3] (y0 :: r) (σ, sz, k, c))) ∧
  (∀ (n : Nat) (l0 l2 l3 : Option Value) (y1 : Int32) (r : List Value) (σ : zk_S) (sz k c : Nat), zk_run E (zk_VT E) M_L_removeRoom (C_L_removeRoom E) P PX K (n + 1) 3 [l0, some (.int y1), l2, l3] r (σ, sz, k, c) = zk_run E (zk_VT E) M_L_removeRoom (C_L_removeRoom E) P PX K n 4 [l0, some (.int y1), l2, l3] (.int y1 :: r) (σ, sz, k, c)) ∧
  (∀ (n : Nat) (l0 l1 l2 l3 : Option Value) (v0 : Value) (v1 : Value) (v2 : Value) (v3 : Value)  (σ : zk_S) (sz k c : Nat), zk_run E (zk_VT E) M_L_removeRoom (C_L_removeRoom E) P PX K (n + 1) 4 [l0, l1, l2, l3] [v0, v1, v2, v3] (σ, sz, k, c) = (k + 1 ≤ 1 ∧ c + 6 ≤ 6 ∧ (zk_rv (zk_VT E) (fun ci => Nat.beq ci 9) (sp_X10_removeRoom E)) [v1, v0] σ sz (fun v s2 z2 => zk_run E (zk_VT E) M_L_removeRoom (C_L_removeRoom E) P PX K n 7 [l0, l1, l2, l3] (zk_psh v [v2, v3]) (s2, z2, k + 1, c + 6)) (fun X s2 z2 => (match (match Nat.beq 4 4 with
  | true => if X = "java/lang/IndexOutOfBoundsException" then some 12 else none
  | false => none : Option Nat) with
    | some hp => ∀ q : Nat, zk_run E (zk_VT E) M_L_removeRoom (C_L_removeRoom E) P PX K n hp [l0, l1, l2, l3] [.ref q] (s2, z2, k + 1, c + 6)
    | none => PX X s2 z2)))) ∧
  (∀ (n : Nat) (l0 l1 l2 l3 : Option Value) (x : Int32) (r : List Value) (σ : zk_S) (sz k c : Nat), zk_run E (zk_VT E) M_L_removeRoom (C_L_removeRoom E) P PX K (n + 1) 7 [l0, l1, l2, l3] (.int x :: r) (σ, sz, k, c) = zk_run E (zk_VT E) M_L_removeRoom (C_L_removeRoom E) P PX K n 8 [l0, l1, l2, l3] (.long (x.toInt64) :: r) (σ, sz, k, c)) ∧
  (∀ (n : Nat) (l0 l1 l2 l3 : Option Value) (a : Nat) (i : Int32) (x : Int64) (r : List Value) (σ : zk_S) (sz k c : Nat), zk_run E (zk_VT E) M_L_removeRoom (C_L_removeRoom E) P PX K (n + 1) 8 [l0, l1, l2, l3] (.long x :: .int i :: .ref a :: r) (σ, sz, k, c) = zk_lst (zk_view E σ a) (zk_ar E 2) i x (fun e => zk_wrok E σ a e ∧ zk_run E (zk_VT E) M_L_removeRoom (C_L_removeRoom E) P PX K n 9 [l0, l1, l2, l3] r (zk_wr E σ a e, sz, k, c))) ∧
  (∀ (n : Nat) (l0 l1 l2 l3 : Option Value)  (r : List Value) (σ : zk_S) (sz k c : Nat), zk_run E (zk_VT E) M_L_removeRoom (C_L_removeRoom E) P PX K (n + 1) 9 [l0, l1, l2, l3] r (σ, sz, k, c) = zk_run E (zk_VT E) M_L_removeRoom (C_L_removeRoom E) P PX K n 15 [l0, l1, l2, l3] r (σ, sz, k, c)) ∧
  (∀ (n : Nat) (l0 l1 l2 l3 : Option Value) (x : Value) (r : List Value) (σ : zk_S) (sz k c : Nat), zk_run E (zk_VT E) M_L_removeRoom (C_L_removeRoom E) P PX K (n + 1) 12 [l0, l1, l2, l3] (x :: r) (σ, sz, k, c) = (zk_isr x ∧ zk_run E (zk_VT E) M_L_removeRoom (C_L_removeRoom E) P PX K n 13 [l0, l1, zk_kl l2, some (x)] r (σ, sz, k, c))) ∧
  (∀ (n : Nat) (l0 l1 l2 l3 : Option Value)  (r : List Value) (σ : zk_S) (sz k c : Nat), zk_run E (zk_VT E) M_L_removeRoom (C_L_removeRoom E) P PX K (n + 1) 13 [l0, l1, l2, l3] r (σ, sz, k, c) = zk_run E (zk_VT E) M_L_removeRoom (C_L_removeRoom E) P PX K n 14 [l0, l1, l2, l3] (.int (1) :: r) (σ, sz, k, c)) ∧
  (∀ (n : Nat) (l0 l1 l2 l3 : Option Value) (x : Int32)  (σ : zk_S) (sz k c : Nat), zk_run E (zk_VT E) M_L_removeRoom (C_L_removeRoom E) P PX K (n + 1) 14 [l0, l1, l2, l3] [.int x] (σ, sz, k, c) = (zk_nok (some (.int)) x ∧ P (some (.int x)) σ sz ∧ k ≤ 1 ∧ c ≤ 6)) ∧
  (∀ (n : Nat) (l0 l1 l2 l3 : Option Value)  (r : List Value) (σ : zk_S) (sz k c : Nat), zk_run E (zk_VT E) M_L_removeRoom (C_L_removeRoom E) P PX K (n + 1) 15 [l0, l1, l2, l3] r (σ, sz, k, c) = zk_run E (zk_VT E) M_L_removeRoom (C_L_removeRoom E) P PX K n 16 [l0, l1, l2, l3] (.int (0) :: r) (σ, sz, k, c)) ∧
  (∀ (n : Nat) (l0 l1 l2 l3 : Option Value) (x : Int32)  (σ : zk_S) (sz k c : Nat), zk_run E (zk_VT E) M_L_removeRoom (C_L_removeRoom E) P PX K (n + 1) 16 [l0, l1, l2, l3] [.int x] (σ, sz, k, c) = (zk_nok (some (.int)) x ∧ P (some (.int x)) σ sz ∧ k ≤ 1 ∧ c ≤ 6)) ∧
  (∀ (n : Nat) (l0 l1 l2 l3 : Option Value) (r : List Value) (w : zk_W zk_S), zk_go E (zk_VT E) M_L_removeRoom (C_L_removeRoom E) P PX K n 0 [l0, l1, l2, l3] r w = zk_run E (zk_VT E) M_L_removeRoom (C_L_removeRoom E) P PX K (n + 1) 0 [l0, l1, l2, l3] r w) := ⟨by intros; rfl, by intros; rfl, by intros; rfl, by intros; rfl, by intros; rfl, by intros; rfl, by intros; rfl, by intros; rfl, by intros; rfl, by intros; rfl, by intros; rfl, by intros; rfl, by intros; rfl, by intros; rfl⟩
set_option maxHeartbeats 4000000 in
theorem vc_L_removeRoom (E : zk_E) : zk_VCH E (zk_VT E) M_L_removeRoom (C_L_removeRoom E) 4 (sp_L_removeRoom E) := by
  intro av σ sz P h
  obtain ⟨J, N, Q, O, U⟩ := σ
  unfold sp_L_removeRoom at h
  split at h
  case h_2 => exact h.elim
  rename_i a r o
  refine ⟨Nat.le_of_ble_eq_true rfl, fun G hG => ?_⟩
  change G 0 [some (.ref a), some (.int r), some (.ref o), none] [] ((J, N, Q, O, U), sz, 0, 0)
  try dsimp only at h
  obtain ⟨rfl, rfl, hli, h⟩ := h
  have hms := hli.2.1.1
  unfold R_removeRoom at h
  dsimp only at h
  (refine hG 900 _ _ _ _ ?_; simp only [r_L_removeRoom, zk_kl_none, zk_kl_int, zk_kl_ref, zk_kl_null, zk_kl_long, zk_kl_rf, zk_isr_ref, zk_isr_null, zk_isr_rf9, zk_c1_int, zk_c1_ref, zk_c1_null, zk_c1_rf, zk_psh_some, zk_psh_none, zk_nok_int, zk_nok_bool0, zk_nok_bool1, zk_nok_b, zk_fok_0, zk_fok_1, zk_fok_2, zk_fok_n, zk_fok_rf, zb_f, zb_p, zb_i, zb_a, zb_s, zk_nth_0, zk_nth_s, zk_fld_o, zk_put_o, zk_rv_eq, zk_ri_eq, zk_is_o, List.mem_cons, List.not_mem_nil, or_false, false_or, or_true, true_or, and_true, true_and, not_false_iff, not_true_eq_false, true_implies, false_implies, imp_self, implies_true, forall_const, zk_lit, zk_uj_ap, zk_un_ap, zk_un_un, zk_uj_uj, Nat.reduceEqDiff, eq_self, zk_bq, Bool.true_or, Bool.false_or, Nat.le_refl, Nat.zero_add, Nat.add_zero, Nat.reduceAdd, Nat.reduceLeDiff, Nat.le_zero_eq, and_self, and_false, false_and, ite_true, ite_false, Nat.zero_le, List.length_cons, List.length_nil, Option.some.injEq, forall_eq', reduceCtorEq, spe_X10_removeRoom])
  refine ⟨J, N, hli.2, ?_⟩
  refine RD.mk hms (fun j hj ej => ?_) (fun ej => ?_)
  · intro J2 N2 Q2 O2 z2 hz h04 hJ hN hxr
    simp only [r_L_removeRoom, zk_kl_none, zk_kl_int, zk_kl_ref, zk_kl_null, zk_kl_long, zk_kl_rf, zk_isr_ref, zk_isr_null, zk_isr_rf9, zk_c1_int, zk_c1_ref, zk_c1_null, zk_c1_rf, zk_psh_some, zk_psh_none, zk_nok_int, zk_nok_bool0, zk_nok_bool1, zk_nok_b, zk_fok_0, zk_fok_1, zk_fok_2, zk_fok_n, zk_fok_rf, zb_f, zb_p, zb_i, zb_a, zb_s, zk_nth_0, zk_nth_s, zk_fld_o, zk_put_o, zk_rv_eq, zk_ri_eq, zk_is_o, List.mem_cons, List.not_mem_nil, or_false, false_or, or_true, true_or, and_true, true_and, not_false_iff, not_true_eq_false, true_implies, false_implies, imp_self, implies_true, forall_const, zk_lit, zk_uj_ap, zk_un_ap, zk_un_un, zk_uj_uj, Nat.reduceEqDiff, eq_self, zk_bq, Bool.true_or, Bool.false_or, Nat.le_refl, Nat.zero_add, Nat.add_zero, Nat.reduceAdd, Nat.reduceLeDiff, Nat.le_zero_eq, and_self, and_false, false_and, ite_true, ite_false, Nat.zero_le, List.length_cons, List.length_nil, Option.some.injEq, forall_eq', reduceCtorEq, hc_q, hc_s, hc_v, hc_i]
    exact h 0 _ _ (Or.inl ⟨j, hj, ej, ⟨⟨rfl, up_L U _⟩, hz, hJ, hN, hxr.grow (fun _ _ => rfl) (Nat.le_refl _), Or.inl h04⟩⟩)
  · intro O2 z2 hz hO
    simp only [r_L_removeRoom, zk_kl_none, zk_kl_int, zk_kl_ref, zk_kl_null, zk_kl_long, zk_kl_rf, zk_isr_ref, zk_isr_null, zk_isr_rf9, zk_c1_int, zk_c1_ref, zk_c1_null, zk_c1_rf, zk_psh_some, zk_psh_none, zk_nok_int, zk_nok_bool0, zk_nok_bool1, zk_nok_b, zk_fok_0, zk_fok_1, zk_fok_2, zk_fok_n, zk_fok_rf, zb_f, zb_p, zb_i, zb_a, zb_s, zk_nth_0, zk_nth_s, zk_fld_o, zk_put_o, zk_rv_eq, zk_ri_eq, zk_is_o, List.mem_cons, List.not_mem_nil, or_false, false_or, or_true, true_or, and_true, true_and, not_false_iff, not_true_eq_false, true_implies, false_implies, imp_self, implies_true, forall_const, zk_lit, zk_uj_ap, zk_un_ap, zk_un_un, zk_uj_uj, Nat.reduceEqDiff, eq_self, zk_bq, Bool.true_or, Bool.false_or, Nat.le_refl, Nat.zero_add, Nat.add_zero, Nat.reduceAdd, Nat.reduceLeDiff, Nat.le_zero_eq, and_self, and_false, false_and, ite_true, ite_false, Nat.zero_le, List.length_cons, List.length_nil, Option.some.injEq, forall_eq', reduceCtorEq, hc_q, hc_s, hc_v, hc_i]
    exact h 1 _ _ (Or.inr ⟨ej, ⟨rfl, LC.zy hli hO hz⟩⟩)
def hh_L_removeRoom : List (Nat × Nat × Nat × Nat) := [(0, 9, 12, 21)]
theorem HO_L_removeRoom : zk_HO RL hh_L_removeRoom M_L_removeRoom := by
  intro pc X hp h
  have h2 : (match Nat.beq pc 4 with | true => (if X = "java/lang/IndexOutOfBoundsException" then some 12 else none) | false => none : Option Nat) = some hp := h
  clear h
  split at h2
  · rename_i e
    have e := Nat.eq_of_beq_eq_true e
    subst e
    by_cases e0 : X = "java/lang/IndexOutOfBoundsException"
    · subst e0
      rw [if_pos rfl] at h2
      cases h2
      exact ⟨[], ⟨0, 9, 12, 21⟩, [], rfl, fun _ h => absurd h List.not_mem_nil, by decide, by decide, rfl, "java/lang/IndexOutOfBoundsException", zk_wi 545 (by decide +kernel) rfl, zk_tb 556 (by decide +kernel)⟩
    rw [if_neg e0] at h2
    cases h2
  · cases h2
theorem ct_L_removeRoom {l : Launch} (hl : l.stackTraces = false) (E : zk_E) : zk_CH l E (zk_VT E) yL_removeRoom cL_removeRoom 4 (some (.int)) hh_L_removeRoom rm_L_removeRoom (sp_L_removeRoom E) := by
  refine zk_methH (M := M_L_removeRoom) (C := C_L_removeRoom E) (by decide +kernel) rfl HO_L_removeRoom (zk_VT_ok E) MO_L_removeRoom TO_L_removeRoom (fun _ => rfl) ?_ (vc_L_removeRoom E)
  exact fun p e s m args below meth c X pc n mc ms sp2 h => by
    have h2 := zk_lka_mem h
    simp only [List.mem_cons, List.not_mem_nil, or_false, Prod.mk.injEq] at h2
    rcases h2 with ⟨rfl, rfl, rfl, rfl, rfl⟩
    exact zk_coV (idx := 17) X (ct_X10_removeRoom hl E) (List.forall_mem_cons.mpr ⟨zk_wi 546 (by decide +kernel) rfl, List.forall_mem_cons.mpr ⟨zk_wi 547 (by decide +kernel) rfl, List.forall_mem_cons.mpr ⟨zk_wi 548 (by decide +kernel) rfl, List.forall_mem_cons.mpr ⟨zk_wi 1 (by decide +kernel) rfl, List.forall_mem_cons.mpr ⟨zk_wi 549 (by decide +kernel) rfl, fun _ h => absurd h List.not_mem_nil⟩⟩⟩⟩⟩) (fun ci h => by
      have h := Nat.eq_of_beq_eq_true h
      subst h
      exact ⟨_, _, rfl⟩) (by decide +kernel) ⟨by decide, by decide, by decide +kernel⟩ ⟨by decide, by decide⟩
def R_setPeople (E : zk_E) (σ : zk_S) (sz : Nat) (r : Int32) (p : Int32) (k : Int32) (σ2 : zk_S) (sz2 : Nat) : Prop := RD σ.1 σ.2.1 r (fun j => CD (m_isIn p 0 200) (WN E σ sz σ2 sz2 k 2) (WO E σ sz σ2 sz2 k (σ.2.1 29 j).toInt64 σ.1 (uN_ppl σ.2.1 j p))) (WN E σ sz σ2 sz2 k 1)
def sp_L_setPeople (E : zk_E) : zk_Sp zk_S := fun av σ sz P PX => match av with
  | [.ref a, .int r, .int p, .ref o] => a = zk_ad E 0 ∧ o = zk_ad E 54 ∧ LI E sz σ ∧ ∀ k σ2 sz2, R_setPeople E σ sz r p k σ2 sz2 → P (some (.int k)) σ2 sz2
  | _ => False
theorem spe_L_setPeople (E : zk_E) (a : Nat) (r : Int32) (p : Int32) (o : Nat) (σ : zk_S) (sz : Nat) (P : zk_P zk_S) (PX : zk_X zk_S) : sp_L_setPeople E [.ref a, .int r, .int p, .ref o] σ sz P PX = (a = zk_ad E 0 ∧ o = zk_ad E 54 ∧ LI E sz σ ∧ ∀ k σ2 sz2, R_setPeople E σ sz r p k σ2 sz2 → P (some (.int k)) σ2 sz2) := propext Iff.rfl
def C_L_setPeople (E : zk_E) : zk_Cl zk_S := zk_lka [(5, 3, 2, 12, zk_rv (zk_VT E) (fun ci => Nat.beq ci 9) (sp_X10_setPeople E))]
theorem r_L_setPeople (E : zk_E) (P : zk_P zk_S) (PX : zk_X zk_S) (K : Nat → zk_L → List Value → zk_W zk_S → Prop) : (∀ (n : Nat) (l0 l1 l2 l4 : Option Value) (y3 : Value) (r : List Value) (σ : zk_S) (sz k c : Nat), zk_run E (zk_VT E) M_L_setPeople (C_L_setPeople E) P PX K (n + 1) 0 [l0, l1, l2, some y3, l4] r (σ, sz, k, c) = (zk_isr y3 ∧ zk_run E (zk_VT E) M_L_setPeople (C_L_setPeople E) P PX K n 1 [l0, l1, l2, some y3, l4] (y3 :: r) (σ, sz, k, c))) ∧
  (∀ (n : Nat) (l0 l1 l2 l3 l4 : Option Value)  (r : List Value) (σ : zk_S) (sz k c : Nat), zk_run E (zk_VT E) M_L_setPeople (C_L_setPeople E) P PX K (n + 1) 1 [l0, l1, l2, l3, l4] r (σ, sz, k, c) = zk_run E (zk_VT E) M_L_setPeople (C_L_setPeople E) P PX K n 2 [l0, l1, l2, l3, l4] (.int (0) :: r) (σ, sz, k, c)) ∧
  (∀ (n : Nat) (l1 l2 l3 l4 : Option Value) (y0 : Value) (r : List Value) (σ : zk_S) (sz k c : Nat), zk_run E (zk_VT E) M_L_setPeople (C_L_setPeople E) P PX K (n + 1) 2 [some y0, l1, l2, l3, l4] r (σ, sz, k, c) = (zk_isr y0 ∧ zk_run E (zk_VT E) M_L_setPeople (C_L_setPeople E) P PX K n 3 [some y0, l1, l2, l3, l4] (y0 :: r) (σ, sz, k, c))) ∧
  (∀ (n : Nat) (l0 l2 l3 l4 : Option Value) (y1 : Int32) (r : List Value) (σ : zk_S) (sz k c : Nat), zk_run E (zk_VT E) M_L_setPeople (C_L_setPeople E) P PX K (n + 1) 3 [l0, some (.int y1), l2, l3, l4] r (σ, sz, k, c) = zk_run E (zk_VT E) M_L_setPeople (C_L_setPeople E) P PX K n 4 [l0, some (.int y1), l2, l3, l4] (.int y1 :: r) (σ, sz, k, c)) ∧
  (∀ (n : Nat) (l0 l1 l3 l4 : Option Value) (y2 : Int32) (r : List Value) (σ : zk_S) (sz k c : Nat), zk_run E (zk_VT E) M_L_setPeople (C_L_setPeople E) P PX K (n + 1) 4 [l0, l1, some (.int y2), l3, l4] r (σ, sz, k, c) = zk_run E (zk_VT E) M_L_setPeople (C_L_setPeople E) P PX K n 5 [l0, l1, some (.int y2), l3, l4] (.int y2 :: r) (σ, sz, k, c)) ∧
  (∀ (n : Nat) (l0 l1 l2 l3 l4 : Option Value) (v0 : Value) (v1 : Value) (v2 : Value) (v3 : Value) (v4 : Value)  (σ : zk_S) (sz k c : Nat), zk_run E (zk_VT E) M_L_setPeople (C_L_setPeople E) P PX K (n + 1) 5 [l0, l1, l2, l3, l4] [v0, v1, v2, v3, v4] (σ, sz, k, c) = (k + 2 ≤ 2 ∧ c + 12 ≤ 12 ∧ (zk_rv (zk_VT E) (fun ci => Nat.beq ci 9) (sp_X10_setPeople E)) [v2, v1, v0] σ sz (fun v s2 z2 => zk_run E (zk_VT E) M_L_setPeople (C_L_setPeople E) P PX K n 8 [l0, l1, l2, l3, l4] (zk_psh v [v3, v4]) (s2, z2, k + 2, c + 12)) (fun X s2 z2 => (match (match Nat.beq 5 5 with
  | true => if X = "java/lang/IndexOutOfBoundsException" then some 13 else if X = "java/lang/IllegalArgumentException" then some 17 else none
  | false => none : Option Nat) with
    | some hp => ∀ q : Nat, zk_run E (zk_VT E) M_L_setPeople (C_L_setPeople E) P PX K n hp [l0, l1, l2, l3, l4] [.ref q] (s2, z2, k + 2, c + 12)
    | none => PX X s2 z2)))) ∧
  (∀ (n : Nat) (l0 l1 l2 l3 l4 : Option Value) (x : Int32) (r : List Value) (σ : zk_S) (sz k c : Nat), zk_run E (zk_VT E) M_L_setPeople (C_L_setPeople E) P PX K (n + 1) 8 [l0, l1, l2, l3, l4] (.int x :: r) (σ, sz, k, c) = zk_run E (zk_VT E) M_L_setPeople (C_L_setPeople E) P PX K n 9 [l0, l1, l2, l3, l4] (.long (x.toInt64) :: r) (σ, sz, k, c)) ∧
  (∀ (n : Nat) (l0 l1 l2 l3 l4 : Option Value) (a : Nat) (i : Int32) (x : Int64) (r : List Value) (σ : zk_S) (sz k c : Nat), zk_run E (zk_VT E) M_L_setPeople (C_L_setPeople E) P PX K (n + 1) 9 [l0, l1, l2, l3, l4] (.long x :: .int i :: .ref a :: r) (σ, sz, k, c) = zk_lst (zk_view E σ a) (zk_ar E 2) i x (fun e => zk_wrok E σ a e ∧ zk_run E (zk_VT E) M_L_setPeople (C_L_setPeople E) P PX K n 10 [l0, l1, l2, l3, l4] r (zk_wr E σ a e, sz, k, c))) ∧
  (∀ (n : Nat) (l0 l1 l2 l3 l4 : Option Value)  (r : List Value) (σ : zk_S) (sz k c : Nat), zk_run E (zk_VT E) M_L_setPeople (C_L_setPeople E) P PX K (n + 1) 10 [l0, l1, l2, l3, l4] r (σ, sz, k, c) = zk_run E (zk_VT E) M_L_setPeople (C_L_setPeople E) P PX K n 21 [l0, l1, l2, l3, l4] r (σ, sz, k, c)) ∧
  (∀ (n : Nat) (l0 l1 l2 l3 l4 : Option Value) (x : Value) (r : List Value) (σ : zk_S) (sz k c : Nat), zk_run E (zk_VT E) M_L_setPeople (C_L_setPeople E) P PX K (n + 1) 13 [l0, l1, l2, l3, l4] (x :: r) (σ, sz, k, c) = (zk_isr x ∧ zk_run E (zk_VT E) M_L_setPeople (C_L_setPeople E) P PX K n 15 [l0, l1, l2, zk_kl l3, some (x)] r (σ, sz, k, c))) ∧
  (∀ (n : Nat) (l0 l1 l2 l3 l4 : Option Value)  (r : List Value) (σ : zk_S) (sz k c : Nat), zk_run E (zk_VT E) M_L_setPeople (C_L_setPeople E) P PX K (n + 1) 15 [l0, l1, l2, l3, l4] r (σ, sz, k, c) = zk_run E (zk_VT E) M_L_setPeople (C_L_setPeople E) P PX K n 16 [l0, l1, l2, l3, l4] (.int (1) :: r) (σ, sz, k, c)) ∧
  (∀ (n : Nat) (l0 l1 l2 l3 l4 : Option Value) (x : Int32)  (σ : zk_S) (sz k c : Nat), zk_run E (zk_VT E) M_L_setPeople (C_L_setPeople E) P PX K (n + 1) 16 [l0, l1, l2, l3, l4] [.int x] (σ, sz, k, c) = (zk_nok (some (.int)) x ∧ P (some (.int x)) σ sz ∧ k ≤ 2 ∧ c ≤ 12)) ∧
  (∀ (n : Nat) (l0 l1 l2 l3 l4 : Option Value) (x : Value) (r : List Value) (σ : zk_S) (sz k c : Nat), zk_run E (zk_VT E) M_L_setPeople (C_L_setPeople E) P PX K (n + 1) 17 [l0, l1, l2, l3, l4] (x :: r) (σ, sz, k, c) = (zk_isr x ∧ zk_run E (zk_VT E) M_L_setPeople (C_L_setPeople E) P PX K n 19 [l0, l1, l2, zk_kl l3, some (x)] r (σ, sz, k, c))) ∧
  (∀ (n : Nat) (l0 l1 l2 l3 l4 : Option Value)  (r : List Value) (σ : zk_S) (sz k c : Nat), zk_run E (zk_VT E) M_L_setPeople (C_L_setPeople E) P PX K (n + 1) 19 [l0, l1, l2, l3, l4] r (σ, sz, k, c) = zk_run E (zk_VT E) M_L_setPeople (C_L_setPeople E) P PX K n 20 [l0, l1, l2, l3, l4] (.int (2) :: r) (σ, sz, k, c)) ∧
  (∀ (n : Nat) (l0 l1 l2 l3 l4 : Option Value) (x : Int32)  (σ : zk_S) (sz k c : Nat), zk_run E (zk_VT E) M_L_setPeople (C_L_setPeople E) P PX K (n + 1) 20 [l0, l1, l2, l3, l4] [.int x] (σ, sz, k, c) = (zk_nok (some (.int)) x ∧ P (some (.int x)) σ sz ∧ k ≤ 2 ∧ c ≤ 12)) ∧
  (∀ (n : Nat) (l0 l1 l2 l3 l4 : Option Value)  (r : List Value) (σ : zk_S) (sz k c : Nat), zk_run E (zk_VT E) M_L_setPeople (C_L_setPeople E) P PX K (n + 1) 21 [l0, l1, l2, l3, l4] r (σ, sz, k, c) = zk_run E (zk_VT E) M_L_setPeople (C_L_setPeople E) P PX K n 22 [l0, l1, l2, l3, l4] (.int (0) :: r) (σ, sz, k, c)) ∧
  (∀ (n : Nat) (l0 l1 l2 l3 l4 : Option Value) (x : Int32)  (σ : zk_S) (sz k c : Nat), zk_run E (zk_VT E) M_L_setPeople (C_L_setPeople E) P PX K (n + 1) 22 [l0, l1, l2, l3, l4] [.int x] (σ, sz, k, c) = (zk_nok (some (.int)) x ∧ P (some (.int x)) σ sz ∧ k ≤ 2 ∧ c ≤ 12)) ∧
  (∀ (n : Nat) (l0 l1 l2 l3 l4 : Option Value) (r : List Value) (w : zk_W zk_S), zk_go E (zk_VT E) M_L_setPeople (C_L_setPeople E) P PX K n 0 [l0, l1, l2, l3, l4] r w = zk_run E (zk_VT E) M_L_setPeople (C_L_setPeople E) P PX K (n + 1) 0 [l0, l1, l2, l3, l4] r w) := ⟨by intros; rfl, by intros; rfl, by intros; rfl, by intros; rfl, by intros; rfl, by intros; rfl, by intros; rfl, by intros; rfl, by intros; rfl, by intros; rfl, by intros; rfl, by intros; rfl, by intros; rfl, by intros; rfl, by intros; rfl, by intros; rfl, by intros; rfl, by intros; rfl⟩
set_option maxHeartbeats 4000000 in
theorem vc_L_setPeople (E : zk_E) : zk_VCH E (zk_VT E) M_L_setPeople (C_L_setPeople E) 5 (sp_L_setPeople E) := by
  intro av σ sz P h
  obtain ⟨J, N, Q, O, U⟩ := σ
  unfold sp_L_setPeople at h
  split at h
  case h_2 => exact h.elim
  rename_i a r p o
  refine ⟨Nat.le_of_ble_eq_true rfl, fun G hG => ?_⟩
  change G 0 [some (.ref a), some (.int r), some (.int p), some (.ref o), none] [] ((J, N, Q, O, U), sz, 0, 0)
  try dsimp only at h
  obtain ⟨rfl, rfl, hli, h⟩ := h
  have hms := hli.2.1.1
  unfold R_setPeople at h
  dsimp only at h
  (refine hG 900 _ _ _ _ ?_; simp only [r_L_setPeople, zk_kl_none, zk_kl_int, zk_kl_ref, zk_kl_null, zk_kl_long, zk_kl_rf, zk_isr_ref, zk_isr_null, zk_isr_rf9, zk_c1_int, zk_c1_ref, zk_c1_null, zk_c1_rf, zk_psh_some, zk_psh_none, zk_nok_int, zk_nok_bool0, zk_nok_bool1, zk_nok_b, zk_fok_0, zk_fok_1, zk_fok_2, zk_fok_n, zk_fok_rf, zb_f, zb_p, zb_i, zb_a, zb_s, zk_nth_0, zk_nth_s, zk_fld_o, zk_put_o, zk_rv_eq, zk_ri_eq, zk_is_o, List.mem_cons, List.not_mem_nil, or_false, false_or, or_true, true_or, and_true, true_and, not_false_iff, not_true_eq_false, true_implies, false_implies, imp_self, implies_true, forall_const, zk_lit, zk_uj_ap, zk_un_ap, zk_un_un, zk_uj_uj, Nat.reduceEqDiff, eq_self, zk_bq, Bool.true_or, Bool.false_or, Nat.le_refl, Nat.zero_add, Nat.add_zero, Nat.reduceAdd, Nat.reduceLeDiff, Nat.le_zero_eq, and_self, and_false, false_and, ite_true, ite_false, Nat.zero_le, List.length_cons, List.length_nil, Option.some.injEq, forall_eq', reduceCtorEq, spe_X10_setPeople])
  refine ⟨J, N, hli.2, ?_⟩
  refine RD.mk hms (fun j hj ej => ?_) (fun ej => ?_)
  · refine ⟨fun hc => ?_, fun hc => ?_⟩
    · intro O2 z2 hz hO
      simp only [r_L_setPeople, zk_kl_none, zk_kl_int, zk_kl_ref, zk_kl_null, zk_kl_long, zk_kl_rf, zk_isr_ref, zk_isr_null, zk_isr_rf9, zk_c1_int, zk_c1_ref, zk_c1_null, zk_c1_rf, zk_psh_some, zk_psh_none, zk_nok_int, zk_nok_bool0, zk_nok_bool1, zk_nok_b, zk_fok_0, zk_fok_1, zk_fok_2, zk_fok_n, zk_fok_rf, zb_f, zb_p, zb_i, zb_a, zb_s, zk_nth_0, zk_nth_s, zk_fld_o, zk_put_o, zk_rv_eq, zk_ri_eq, zk_is_o, List.mem_cons, List.not_mem_nil, or_false, false_or, or_true, true_or, and_true, true_and, not_false_iff, not_true_eq_false, true_implies, false_implies, imp_self, implies_true, forall_const, zk_lit, zk_uj_ap, zk_un_ap, zk_un_un, zk_uj_uj, Nat.reduceEqDiff, eq_self, zk_bq, Bool.true_or, Bool.false_or, Nat.le_refl, Nat.zero_add, Nat.add_zero, Nat.reduceAdd, Nat.reduceLeDiff, Nat.le_zero_eq, and_self, and_false, false_and, ite_true, ite_false, Nat.zero_le, List.length_cons, List.length_nil, Option.some.injEq, forall_eq', reduceCtorEq, hc_q, hc_s, hc_v, hc_i]
      exact h 2 _ _ (Or.inl ⟨j, hj, ej, Or.inl ⟨hc, ⟨rfl, LC.zy hli hO hz⟩⟩⟩)
    · intro J2 N2 Q2 O2 z2 hz h04 hJ hN hxr
      simp only [r_L_setPeople, zk_kl_none, zk_kl_int, zk_kl_ref, zk_kl_null, zk_kl_long, zk_kl_rf, zk_isr_ref, zk_isr_null, zk_isr_rf9, zk_c1_int, zk_c1_ref, zk_c1_null, zk_c1_rf, zk_psh_some, zk_psh_none, zk_nok_int, zk_nok_bool0, zk_nok_bool1, zk_nok_b, zk_fok_0, zk_fok_1, zk_fok_2, zk_fok_n, zk_fok_rf, zb_f, zb_p, zb_i, zb_a, zb_s, zk_nth_0, zk_nth_s, zk_fld_o, zk_put_o, zk_rv_eq, zk_ri_eq, zk_is_o, List.mem_cons, List.not_mem_nil, or_false, false_or, or_true, true_or, and_true, true_and, not_false_iff, not_true_eq_false, true_implies, false_implies, imp_self, implies_true, forall_const, zk_lit, zk_uj_ap, zk_un_ap, zk_un_un, zk_uj_uj, Nat.reduceEqDiff, eq_self, zk_bq, Bool.true_or, Bool.false_or, Nat.le_refl, Nat.zero_add, Nat.add_zero, Nat.reduceAdd, Nat.reduceLeDiff, Nat.le_zero_eq, and_self, and_false, false_and, ite_true, ite_false, Nat.zero_le, List.length_cons, List.length_nil, Option.some.injEq, forall_eq', reduceCtorEq, hc_q, hc_s, hc_v, hc_i]
      exact h 0 _ _ (Or.inl ⟨j, hj, ej, Or.inr ⟨hc, ⟨⟨rfl, up_L U _⟩, hz, hJ, hN, hxr.grow (fun _ _ => rfl) (Nat.le_refl _), Or.inl h04⟩⟩⟩)
  · intro O2 z2 hz hO
    simp only [r_L_setPeople, zk_kl_none, zk_kl_int, zk_kl_ref, zk_kl_null, zk_kl_long, zk_kl_rf, zk_isr_ref, zk_isr_null, zk_isr_rf9, zk_c1_int, zk_c1_ref, zk_c1_null, zk_c1_rf, zk_psh_some, zk_psh_none, zk_nok_int, zk_nok_bool0, zk_nok_bool1, zk_nok_b, zk_fok_0, zk_fok_1, zk_fok_2, zk_fok_n, zk_fok_rf, zb_f, zb_p, zb_i, zb_a, zb_s, zk_nth_0, zk_nth_s, zk_fld_o, zk_put_o, zk_rv_eq, zk_ri_eq, zk_is_o, List.mem_cons, List.not_mem_nil, or_false, false_or, or_true, true_or, and_true, true_and, not_false_iff, not_true_eq_false, true_implies, false_implies, imp_self, implies_true, forall_const, zk_lit, zk_uj_ap, zk_un_ap, zk_un_un, zk_uj_uj, Nat.reduceEqDiff, eq_self, zk_bq, Bool.true_or, Bool.false_or, Nat.le_refl, Nat.zero_add, Nat.add_zero, Nat.reduceAdd, Nat.reduceLeDiff, Nat.le_zero_eq, and_self, and_false, false_and, ite_true, ite_false, Nat.zero_le, List.length_cons, List.length_nil, Option.some.injEq, forall_eq', reduceCtorEq, hc_q, hc_s, hc_v, hc_i]
    exact h 1 _ _ (Or.inr ⟨ej, ⟨rfl, LC.zy hli hO hz⟩⟩)
def hh_L_setPeople : List (Nat × Nat × Nat × Nat) := [(0, 10, 13, 21), (0, 10, 17, 13)]
theorem HO_L_setPeople : zk_HO RL hh_L_setPeople M_L_setPeople := by
  intro pc X hp h
  have h2 : (match Nat.beq pc 5 with | true => (if X = "java/lang/IndexOutOfBoundsException" then some 13 else if X = "java/lang/IllegalArgumentException" then some 17 else none) | false => none : Option Nat) = some hp := h
  clear h
  split at h2
  · rename_i e
    have e := Nat.eq_of_beq_eq_true e
    subst e
    by_cases e0 : X = "java/lang/IndexOutOfBoundsException"
    · subst e0
      rw [if_pos rfl] at h2
      cases h2
      exact ⟨[], ⟨0, 10, 13, 21⟩, [⟨0, 10, 17, 13⟩], rfl, fun _ h => absurd h List.not_mem_nil, by decide, by decide, rfl, "java/lang/IndexOutOfBoundsException", zk_wi 545 (by decide +kernel) rfl, zk_tb 556 (by decide +kernel)⟩
    by_cases e1 : X = "java/lang/IllegalArgumentException"
    · subst e1
      rw [if_neg e0, if_pos rfl] at h2
      cases h2
      exact ⟨[⟨0, 10, 13, 21⟩], ⟨0, 10, 17, 13⟩, [], rfl, List.forall_mem_cons.mpr ⟨⟨by decide, "java/lang/IndexOutOfBoundsException", zk_wi 545 (by decide +kernel) rfl, by decide⟩, fun _ h => absurd h List.not_mem_nil⟩, by decide, by decide, rfl, "java/lang/IllegalArgumentException", zk_wi 394 (by decide +kernel) rfl, zk_tb 405 (by decide +kernel)⟩
    rw [if_neg e0, if_neg e1] at h2
    cases h2
  · cases h2
theorem ct_L_setPeople {l : Launch} (hl : l.stackTraces = false) (E : zk_E) : zk_CH l E (zk_VT E) yL_setPeople cL_setPeople 5 (some (.int)) hh_L_setPeople rm_L_setPeople (sp_L_setPeople E) := by
  refine zk_methH (M := M_L_setPeople) (C := C_L_setPeople E) (by decide +kernel) rfl HO_L_setPeople (zk_VT_ok E) MO_L_setPeople TO_L_setPeople (fun _ => rfl) ?_ (vc_L_setPeople E)
  exact fun p e s m args below meth c X pc n mc ms sp2 h => by
    have h2 := zk_lka_mem h
    simp only [List.mem_cons, List.not_mem_nil, or_false, Prod.mk.injEq] at h2
    rcases h2 with ⟨rfl, rfl, rfl, rfl, rfl⟩
    exact zk_coV (idx := 23) X (ct_X10_setPeople hl E) (List.forall_mem_cons.mpr ⟨zk_wi 584 (by decide +kernel) rfl, List.forall_mem_cons.mpr ⟨zk_wi 585 (by decide +kernel) rfl, List.forall_mem_cons.mpr ⟨zk_wi 586 (by decide +kernel) rfl, List.forall_mem_cons.mpr ⟨zk_wi 1 (by decide +kernel) rfl, List.forall_mem_cons.mpr ⟨zk_wi 587 (by decide +kernel) rfl, fun _ h => absurd h List.not_mem_nil⟩⟩⟩⟩⟩) (fun ci h => by
      have h := Nat.eq_of_beq_eq_true h
      subst h
      exact ⟨_, _, rfl⟩) (by decide +kernel) ⟨by decide, by decide, by decide +kernel⟩ ⟨by decide, by decide⟩
def R_shut (E : zk_E) (σ : zk_S) (sz : Nat) (d : Int32) (x : Int32) (k : Int32) (σ2 : zk_S) (sz2 : Nat) : Prop := DRD σ.1 σ.2.1 d (fun j => WO E σ sz σ2 sz2 k (σ.2.1 36 j).toInt64 σ.1 (zk_un σ.2.1 36 (upd (σ.2.1 36) j x))) (WN E σ sz σ2 sz2 k 1)
def sp_L_shut (E : zk_E) : zk_Sp zk_S := fun av σ sz P PX => match av with
  | [.ref a, .int d, .int x, .ref o] => a = zk_ad E 0 ∧ o = zk_ad E 54 ∧ (x = 0 ∨ x = 1) ∧ LI E sz σ ∧ ∀ k σ2 sz2, R_shut E σ sz d x k σ2 sz2 → P (some (.int k)) σ2 sz2
  | _ => False
theorem spe_L_shut (E : zk_E) (a : Nat) (d : Int32) (x : Int32) (o : Nat) (σ : zk_S) (sz : Nat) (P : zk_P zk_S) (PX : zk_X zk_S) : sp_L_shut E [.ref a, .int d, .int x, .ref o] σ sz P PX = (a = zk_ad E 0 ∧ o = zk_ad E 54 ∧ (x = 0 ∨ x = 1) ∧ LI E sz σ ∧ ∀ k σ2 sz2, R_shut E σ sz d x k σ2 sz2 → P (some (.int k)) σ2 sz2) := propext Iff.rfl
def C_L_shut (E : zk_E) : zk_Cl zk_S := zk_lka [(5, 3, 1, 6, zk_rv (zk_VT E) (fun ci => Nat.beq ci 9) (sp_X10_shut E))]
theorem r_L_shut (E : zk_E) (P : zk_P zk_S) (PX : zk_X zk_S) (K : Nat → zk_L → List Value → zk_W zk_S → Prop) : (∀ (n : Nat) (l0 l1 l2 l4 : Option Value) (y3 : Value) (r : List Value) (σ : zk_S) (sz k c : Nat), zk_run E (zk_VT E) M_L_shut (C_L_shut E) P PX K (n + 1) 0 [l0, l1, l2, some y3, l4] r (σ, sz, k, c) = (zk_isr y3 ∧ zk_run E (zk_VT E) M_L_shut (C_L_shut E) P PX K n 1 [l0, l1, l2, some y3, l4] (y3 :: r) (σ, sz, k, c))) ∧
  (∀ (n : Nat) (l0 l1 l2 l3 l4 : Option Value)  (r : List Value) (σ : zk_S) (sz k c : Nat), zk_run E (zk_VT E) M_L_shut (C_L_shut E) P PX K (n + 1) 1 [l0, l1, l2, l3, l4] r (σ, sz, k, c) = zk_run E (zk_VT E) M_L_shut (C_L_shut E) P PX K n 2 [l0, l1, l2, l3, l4] (.int (0) :: r) (σ, sz, k, c)) ∧
  (∀ (n : Nat) (l1 l2 l3 l4 : Option Value) (y0 : Value) (r : List Value) (σ : zk_S) (sz k c : Nat), zk_run E (zk_VT E) M_L_shut (C_L_shut E) P PX K (n + 1) 2 [some y0, l1, l2, l3, l4] r (σ, sz, k, c) = (zk_isr y0 ∧ zk_run E (zk_VT E) M_L_shut (C_L_shut E) P PX K n 3 [some y0, l1, l2, l3, l4] (y0 :: r) (σ, sz, k, c))) ∧
  (∀ (n : Nat) (l0 l2 l3 l4 : Option Value) (y1 : Int32) (r : List Value) (σ : zk_S) (sz k c : Nat), zk_run E (zk_VT E) M_L_shut (C_L_shut E) P PX K (n + 1) 3 [l0, some (.int y1), l2, l3, l4] r (σ, sz, k, c) = zk_run E (zk_VT E) M_L_shut (C_L_shut E) P PX K n 4 [l0, some (.int y1), l2, l3, l4] (.int y1 :: r) (σ, sz, k, c)) ∧
  (∀ (n : Nat) (l0 l1 l3 l4 : Option Value) (y2 : Int32) (r : List Value) (σ : zk_S) (sz k c : Nat), zk_run E (zk_VT E) M_L_shut (C_L_shut E) P PX K (n + 1) 4 [l0, l1, some (.int y2), l3, l4] r (σ, sz, k, c) = zk_run E (zk_VT E) M_L_shut (C_L_shut E) P PX K n 5 [l0, l1, some (.int y2), l3, l4] (.int y2 :: r) (σ, sz, k, c)) ∧
  (∀ (n : Nat) (l0 l1 l2 l3 l4 : Option Value) (v0 : Value) (v1 : Value) (v2 : Value) (v3 : Value) (v4 : Value)  (σ : zk_S) (sz k c : Nat), zk_run E (zk_VT E) M_L_shut (C_L_shut E) P PX K (n + 1) 5 [l0, l1, l2, l3, l4] [v0, v1, v2, v3, v4] (σ, sz, k, c) = (k + 1 ≤ 1 ∧ c + 6 ≤ 6 ∧ (zk_rv (zk_VT E) (fun ci => Nat.beq ci 9) (sp_X10_shut E)) [v2, v1, v0] σ sz (fun v s2 z2 => zk_run E (zk_VT E) M_L_shut (C_L_shut E) P PX K n 8 [l0, l1, l2, l3, l4] (zk_psh v [v3, v4]) (s2, z2, k + 1, c + 6)) (fun X s2 z2 => (match (match Nat.beq 5 5 with
  | true => if X = "java/lang/IndexOutOfBoundsException" then some 20 else none
  | false => none : Option Nat) with
    | some hp => ∀ q : Nat, zk_run E (zk_VT E) M_L_shut (C_L_shut E) P PX K n hp [l0, l1, l2, l3, l4] [.ref q] (s2, z2, k + 1, c + 6)
    | none => PX X s2 z2)))) ∧
  (∀ (n : Nat) (l0 l1 l2 l3 l4 : Option Value) (x : Int32) (r : List Value) (σ : zk_S) (sz k c : Nat), zk_run E (zk_VT E) M_L_shut (C_L_shut E) P PX K (n + 1) 8 [l0, l1, l2, l3, l4] (.int x :: r) (σ, sz, k, c) = ((x = 0 → zk_run E (zk_VT E) M_L_shut (C_L_shut E) P PX K n 15 [l0, l1, l2, l3, l4] r (σ, sz, k, c)) ∧ (¬ (x = 0) → zk_run E (zk_VT E) M_L_shut (C_L_shut E) P PX K n 11 [l0, l1, l2, l3, l4] r (σ, sz, k, c)))) ∧
  (∀ (n : Nat) (l0 l1 l2 l3 l4 : Option Value)  (r : List Value) (σ : zk_S) (sz k c : Nat), zk_run E (zk_VT E) M_L_shut (C_L_shut E) P PX K (n + 1) 11 [l0, l1, l2, l3, l4] r (σ, sz, k, c) = zk_run E (zk_VT E) M_L_shut (C_L_shut E) P PX K n 12 [l0, l1, l2, l3, l4] (.long 1 :: r) (σ, sz, k, c)) ∧
  (∀ (n : Nat) (l0 l1 l2 l3 l4 : Option Value)  (r : List Value) (σ : zk_S) (sz k c : Nat), zk_run E (zk_VT E) M_L_shut (C_L_shut E) P PX K (n + 1) 12 [l0, l1, l2, l3, l4] r (σ, sz, k, c) = zk_run E (zk_VT E) M_L_shut (C_L_shut E) P PX K n 16 [l0, l1, l2, l3, l4] r (σ, sz, k, c)) ∧
  (∀ (n : Nat) (l0 l1 l2 l3 l4 : Option Value)  (r : List Value) (σ : zk_S) (sz k c : Nat), zk_run E (zk_VT E) M_L_shut (C_L_shut E) P PX K (n + 1) 15 [l0, l1, l2, l3, l4] r (σ, sz, k, c) = zk_run E (zk_VT E) M_L_shut (C_L_shut E) P PX K n 16 [l0, l1, l2, l3, l4] (.long 0 :: r) (σ, sz, k, c)) ∧
  (∀ (n : Nat) (l0 l1 l2 l3 l4 : Option Value) (a : Nat) (i : Int32) (x : Int64) (r : List Value) (σ : zk_S) (sz k c : Nat), zk_run E (zk_VT E) M_L_shut (C_L_shut E) P PX K (n + 1) 16 [l0, l1, l2, l3, l4] (.long x :: .int i :: .ref a :: r) (σ, sz, k, c) = zk_lst (zk_view E σ a) (zk_ar E 2) i x (fun e => zk_wrok E σ a e ∧ zk_run E (zk_VT E) M_L_shut (C_L_shut E) P PX K n 17 [l0, l1, l2, l3, l4] r (zk_wr E σ a e, sz, k, c))) ∧
  (∀ (n : Nat) (l0 l1 l2 l3 l4 : Option Value)  (r : List Value) (σ : zk_S) (sz k c : Nat), zk_run E (zk_VT E) M_L_shut (C_L_shut E) P PX K (n + 1) 17 [l0, l1, l2, l3, l4] r (σ, sz, k, c) = zk_run E (zk_VT E) M_L_shut (C_L_shut E) P PX K n 24 [l0, l1, l2, l3, l4] r (σ, sz, k, c)) ∧
  (∀ (n : Nat) (l0 l1 l2 l3 l4 : Option Value) (x : Value) (r : List Value) (σ : zk_S) (sz k c : Nat), zk_run E (zk_VT E) M_L_shut (C_L_shut E) P PX K (n + 1) 20 [l0, l1, l2, l3, l4] (x :: r) (σ, sz, k, c) = (zk_isr x ∧ zk_run E (zk_VT E) M_L_shut (C_L_shut E) P PX K n 22 [l0, l1, l2, zk_kl l3, some (x)] r (σ, sz, k, c))) ∧
  (∀ (n : Nat) (l0 l1 l2 l3 l4 : Option Value)  (r : List Value) (σ : zk_S) (sz k c : Nat), zk_run E (zk_VT E) M_L_shut (C_L_shut E) P PX K (n + 1) 22 [l0, l1, l2, l3, l4] r (σ, sz, k, c) = zk_run E (zk_VT E) M_L_shut (C_L_shut E) P PX K n 23 [l0, l1, l2, l3, l4] (.int (1) :: r) (σ, sz, k, c)) ∧
  (∀ (n : Nat) (l0 l1 l2 l3 l4 : Option Value) (x : Int32)  (σ : zk_S) (sz k c : Nat), zk_run E (zk_VT E) M_L_shut (C_L_shut E) P PX K (n + 1) 23 [l0, l1, l2, l3, l4] [.int x] (σ, sz, k, c) = (zk_nok (some (.int)) x ∧ P (some (.int x)) σ sz ∧ k ≤ 1 ∧ c ≤ 6)) ∧
  (∀ (n : Nat) (l0 l1 l2 l3 l4 : Option Value)  (r : List Value) (σ : zk_S) (sz k c : Nat), zk_run E (zk_VT E) M_L_shut (C_L_shut E) P PX K (n + 1) 24 [l0, l1, l2, l3, l4] r (σ, sz, k, c) = zk_run E (zk_VT E) M_L_shut (C_L_shut E) P PX K n 25 [l0, l1, l2, l3, l4] (.int (0) :: r) (σ, sz, k, c)) ∧
  (∀ (n : Nat) (l0 l1 l2 l3 l4 : Option Value) (x : Int32)  (σ : zk_S) (sz k c : Nat), zk_run E (zk_VT E) M_L_shut (C_L_shut E) P PX K (n + 1) 25 [l0, l1, l2, l3, l4] [.int x] (σ, sz, k, c) = (zk_nok (some (.int)) x ∧ P (some (.int x)) σ sz ∧ k ≤ 1 ∧ c ≤ 6)) ∧
  (∀ (n : Nat) (l0 l1 l2 l3 l4 : Option Value) (r : List Value) (w : zk_W zk_S), zk_go E (zk_VT E) M_L_shut (C_L_shut E) P PX K n 0 [l0, l1, l2, l3, l4] r w = zk_run E (zk_VT E) M_L_shut (C_L_shut E) P PX K (n + 1) 0 [l0, l1, l2, l3, l4] r w) := ⟨by intros; rfl, by intros; rfl, by intros; rfl, by intros; rfl, by intros; rfl, by intros; rfl, by intros; rfl, by intros; rfl, by intros; rfl, by intros; rfl, by intros; rfl, by intros; rfl, by intros; rfl, by intros; rfl, by intros; rfl, by intros; rfl, by intros; rfl, by intros; rfl⟩
set_option maxHeartbeats 4000000 in
theorem vc_L_shut (E : zk_E) : zk_VCH E (zk_VT E) M_L_shut (C_L_shut E) 5 (sp_L_shut E) := by
  intro av σ sz P h
  obtain ⟨J, N, Q, O, U⟩ := σ
  unfold sp_L_shut at h
  split at h
  case h_2 => exact h.elim
  rename_i a d x o
  refine ⟨Nat.le_of_ble_eq_true rfl, fun G hG => ?_⟩
  change G 0 [some (.ref a), some (.int d), some (.int x), some (.ref o), none] [] ((J, N, Q, O, U), sz, 0, 0)
  try dsimp only at h
  obtain ⟨rfl, rfl, hx, hli, h⟩ := h
  have hms := hli.2.1.1
  unfold R_shut at h
  dsimp only at h
  (refine hG 900 _ _ _ _ ?_; simp only [r_L_shut, zk_kl_none, zk_kl_int, zk_kl_ref, zk_kl_null, zk_kl_long, zk_kl_rf, zk_isr_ref, zk_isr_null, zk_isr_rf9, zk_c1_int, zk_c1_ref, zk_c1_null, zk_c1_rf, zk_psh_some, zk_psh_none, zk_nok_int, zk_nok_bool0, zk_nok_bool1, zk_nok_b, zk_fok_0, zk_fok_1, zk_fok_2, zk_fok_n, zk_fok_rf, zb_f, zb_p, zb_i, zb_a, zb_s, zk_nth_0, zk_nth_s, zk_fld_o, zk_put_o, zk_rv_eq, zk_ri_eq, zk_is_o, List.mem_cons, List.not_mem_nil, or_false, false_or, or_true, true_or, and_true, true_and, not_false_iff, not_true_eq_false, true_implies, false_implies, imp_self, implies_true, forall_const, zk_lit, zk_uj_ap, zk_un_ap, zk_un_un, zk_uj_uj, Nat.reduceEqDiff, eq_self, zk_bq, Bool.true_or, Bool.false_or, Nat.le_refl, Nat.zero_add, Nat.add_zero, Nat.reduceAdd, Nat.reduceLeDiff, Nat.le_zero_eq, and_self, and_false, false_and, ite_true, ite_false, Nat.zero_le, List.length_cons, List.length_nil, Option.some.injEq, forall_eq', reduceCtorEq, spe_X10_shut])
  refine ⟨J, N, hli.2, hx, ?_⟩
  refine DRD.mk hms (fun j hj ej => ?_) (fun ej => ?_)
  · intro O2 hxr
    rcases (show N 36 j = 0 ∨ N 36 j = 1 from (hli.2.1.2.2.1 j hj.1).2.2.2.2.2) with hb | hb
    · simp only [r_L_shut, zk_kl_none, zk_kl_int, zk_kl_ref, zk_kl_null, zk_kl_long, zk_kl_rf, zk_isr_ref, zk_isr_null, zk_isr_rf9, zk_c1_int, zk_c1_ref, zk_c1_null, zk_c1_rf, zk_psh_some, zk_psh_none, zk_nok_int, zk_nok_bool0, zk_nok_bool1, zk_nok_b, zk_fok_0, zk_fok_1, zk_fok_2, zk_fok_n, zk_fok_rf, zb_f, zb_p, zb_i, zb_a, zb_s, zk_nth_0, zk_nth_s, zk_fld_o, zk_put_o, zk_rv_eq, zk_ri_eq, zk_is_o, List.mem_cons, List.not_mem_nil, or_false, false_or, or_true, true_or, and_true, true_and, not_false_iff, not_true_eq_false, true_implies, false_implies, imp_self, implies_true, forall_const, zk_lit, zk_uj_ap, zk_un_ap, zk_un_un, zk_uj_uj, Nat.reduceEqDiff, eq_self, zk_bq, Bool.true_or, Bool.false_or, Nat.le_refl, Nat.zero_add, Nat.add_zero, Nat.reduceAdd, Nat.reduceLeDiff, Nat.le_zero_eq, and_self, and_false, false_and, ite_true, ite_false, Nat.zero_le, List.length_cons, List.length_nil, Option.some.injEq, forall_eq', reduceCtorEq, hc_q, hc_s, hc_v, hc_i, hb, hc_10, zk_bt, zk_bf]
      exact h 0 _ _ (Or.inl ⟨j, hj, ej, ⟨⟨rfl, (up_L U 0).trans (hi64_0.symm.trans (congrArg Int32.toInt64 hb).symm)⟩, LC.sh (U2 := vp_updL U 0 0) hxr⟩⟩)
    · simp only [r_L_shut, zk_kl_none, zk_kl_int, zk_kl_ref, zk_kl_null, zk_kl_long, zk_kl_rf, zk_isr_ref, zk_isr_null, zk_isr_rf9, zk_c1_int, zk_c1_ref, zk_c1_null, zk_c1_rf, zk_psh_some, zk_psh_none, zk_nok_int, zk_nok_bool0, zk_nok_bool1, zk_nok_b, zk_fok_0, zk_fok_1, zk_fok_2, zk_fok_n, zk_fok_rf, zb_f, zb_p, zb_i, zb_a, zb_s, zk_nth_0, zk_nth_s, zk_fld_o, zk_put_o, zk_rv_eq, zk_ri_eq, zk_is_o, List.mem_cons, List.not_mem_nil, or_false, false_or, or_true, true_or, and_true, true_and, not_false_iff, not_true_eq_false, true_implies, false_implies, imp_self, implies_true, forall_const, zk_lit, zk_uj_ap, zk_un_ap, zk_un_un, zk_uj_uj, Nat.reduceEqDiff, eq_self, zk_bq, Bool.true_or, Bool.false_or, Nat.le_refl, Nat.zero_add, Nat.add_zero, Nat.reduceAdd, Nat.reduceLeDiff, Nat.le_zero_eq, and_self, and_false, false_and, ite_true, ite_false, Nat.zero_le, List.length_cons, List.length_nil, Option.some.injEq, forall_eq', reduceCtorEq, hc_q, hc_s, hc_v, hc_i, hb, hc_10, zk_bt, zk_bf]
      exact h 0 _ _ (Or.inl ⟨j, hj, ej, ⟨⟨rfl, (up_L U 1).trans (hi64_1.symm.trans (congrArg Int32.toInt64 hb).symm)⟩, LC.sh (U2 := vp_updL U 0 1) hxr⟩⟩)
  · intro z2 hz
    simp only [r_L_shut, zk_kl_none, zk_kl_int, zk_kl_ref, zk_kl_null, zk_kl_long, zk_kl_rf, zk_isr_ref, zk_isr_null, zk_isr_rf9, zk_c1_int, zk_c1_ref, zk_c1_null, zk_c1_rf, zk_psh_some, zk_psh_none, zk_nok_int, zk_nok_bool0, zk_nok_bool1, zk_nok_b, zk_fok_0, zk_fok_1, zk_fok_2, zk_fok_n, zk_fok_rf, zb_f, zb_p, zb_i, zb_a, zb_s, zk_nth_0, zk_nth_s, zk_fld_o, zk_put_o, zk_rv_eq, zk_ri_eq, zk_is_o, List.mem_cons, List.not_mem_nil, or_false, false_or, or_true, true_or, and_true, true_and, not_false_iff, not_true_eq_false, true_implies, false_implies, imp_self, implies_true, forall_const, zk_lit, zk_uj_ap, zk_un_ap, zk_un_un, zk_uj_uj, Nat.reduceEqDiff, eq_self, zk_bq, Bool.true_or, Bool.false_or, Nat.le_refl, Nat.zero_add, Nat.add_zero, Nat.reduceAdd, Nat.reduceLeDiff, Nat.le_zero_eq, and_self, and_false, false_and, ite_true, ite_false, Nat.zero_le, List.length_cons, List.length_nil, Option.some.injEq, forall_eq', reduceCtorEq, hc_q, hc_s, hc_v, hc_i]
    exact h 1 _ _ (Or.inr ⟨ej, ⟨rfl, LC.zy hli (fun _ _ => rfl) hz⟩⟩)
def hh_L_shut : List (Nat × Nat × Nat × Nat) := [(0, 17, 20, 21)]
theorem HO_L_shut : zk_HO RL hh_L_shut M_L_shut := by
  intro pc X hp h
  have h2 : (match Nat.beq pc 5 with | true => (if X = "java/lang/IndexOutOfBoundsException" then some 20 else none) | false => none : Option Nat) = some hp := h
  clear h
  split at h2
  · rename_i e
    have e := Nat.eq_of_beq_eq_true e
    subst e
    by_cases e0 : X = "java/lang/IndexOutOfBoundsException"
    · subst e0
      rw [if_pos rfl] at h2
      cases h2
      exact ⟨[], ⟨0, 17, 20, 21⟩, [], rfl, fun _ h => absurd h List.not_mem_nil, by decide, by decide, rfl, "java/lang/IndexOutOfBoundsException", zk_wi 545 (by decide +kernel) rfl, zk_tb 556 (by decide +kernel)⟩
    rw [if_neg e0] at h2
    cases h2
  · cases h2
theorem ct_L_shut {l : Launch} (hl : l.stackTraces = false) (E : zk_E) : zk_CH l E (zk_VT E) yL_shut cL_shut 5 (some (.int)) hh_L_shut rm_L_shut (sp_L_shut E) := by
  refine zk_methH (M := M_L_shut) (C := C_L_shut E) (by decide +kernel) rfl HO_L_shut (zk_VT_ok E) MO_L_shut TO_L_shut (fun _ => rfl) ?_ (vc_L_shut E)
  exact fun p e s m args below meth c X pc n mc ms sp2 h => by
    have h2 := zk_lka_mem h
    simp only [List.mem_cons, List.not_mem_nil, or_false, Prod.mk.injEq] at h2
    rcases h2 with ⟨rfl, rfl, rfl, rfl, rfl⟩
    exact zk_coV (idx := 39) X (ct_X10_shut hl E) (List.forall_mem_cons.mpr ⟨zk_wi 778 (by decide +kernel) rfl, List.forall_mem_cons.mpr ⟨zk_wi 779 (by decide +kernel) rfl, List.forall_mem_cons.mpr ⟨zk_wi 780 (by decide +kernel) rfl, List.forall_mem_cons.mpr ⟨zk_wi 1 (by decide +kernel) rfl, List.forall_mem_cons.mpr ⟨zk_wi 781 (by decide +kernel) rfl, fun _ h => absurd h List.not_mem_nil⟩⟩⟩⟩⟩) (fun ci h => by
      have h := Nat.eq_of_beq_eq_true h
      subst h
      exact ⟨_, _, rfl⟩) (by decide +kernel) ⟨by decide, by decide, by decide +kernel⟩ ⟨by decide, by decide⟩
def R_removeDoor (E : zk_E) (σ : zk_S) (sz : Nat) (r : Int32) (k : Int32) (σ2 : zk_S) (sz2 : Nat) : Prop := DRD σ.1 σ.2.1 r (fun j => WO E σ sz σ2 sz2 k (m_doorsNow σ.1 (uN_rmD σ.2.1 j)).toInt64 σ.1 (uN_rmD σ.2.1 j)) (WN E σ sz σ2 sz2 k 1)
def sp_L_removeDoor (E : zk_E) : zk_Sp zk_S := fun av σ sz P PX => match av with
  | [.ref a, .int r, .ref o] => a = zk_ad E 0 ∧ o = zk_ad E 54 ∧ LI E sz σ ∧ ∀ k σ2 sz2, R_removeDoor E σ sz r k σ2 sz2 → P (some (.int k)) σ2 sz2
  | _ => False
theorem spe_L_removeDoor (E : zk_E) (a : Nat) (r : Int32) (o : Nat) (σ : zk_S) (sz : Nat) (P : zk_P zk_S) (PX : zk_X zk_S) : sp_L_removeDoor E [.ref a, .int r, .ref o] σ sz P PX = (a = zk_ad E 0 ∧ o = zk_ad E 54 ∧ LI E sz σ ∧ ∀ k σ2 sz2, R_removeDoor E σ sz r k σ2 sz2 → P (some (.int k)) σ2 sz2) := propext Iff.rfl
def C_L_removeDoor (E : zk_E) : zk_Cl zk_S := zk_lka [(4, 2, 1, 6, zk_rv (zk_VT E) (fun ci => Nat.beq ci 9) (sp_X10_removeDoor E))]
theorem r_L_removeDoor (E : zk_E) (P : zk_P zk_S) (PX : zk_X zk_S) (K : Nat → zk_L → List Value → zk_W zk_S → Prop) : (∀ (n : Nat) (l0 l1 l3 : Option Value) (y2 : Value) (r : List Value) (σ : zk_S) (sz k c : Nat), zk_run E (zk_VT E) M_L_removeDoor (C_L_removeDoor E) P PX K (n + 1) 0 [l0, l1, some y2, l3] r (σ, sz, k, c) = (zk_isr y2 ∧ zk_run E (zk_VT E) M_L_removeDoor (C_L_removeDoor E) P PX K n 1 [l0, l1, some y2, l3] (y2 :: r) (σ, sz, k, c))) ∧
  (∀ (n : Nat) (l0 l1 l2 l3 : Option Value)  (r : List Value) (σ : zk_S) (sz k c : Nat), zk_run E (zk_VT E) M_L_removeDoor (C_L_removeDoor E) P PX K (n + 1) 1 [l0, l1, l2, l3] r (σ, sz, k, c) = zk_run E (zk_VT E) M_L_removeDoor (C_L_removeDoor E) P PX K n 2 [l0, l1, l2, l3] (.int (0) :: r) (σ, sz, k, c)) ∧
  (∀ (n : Nat) (l1 l2 l3 : Option Value) (y0 : Value) (r : List Value) (σ : zk_S) (sz k c : Nat), zk_run E (zk_VT E) M_L_removeDoor (C_L_removeDoor E) P PX K (n + 1) 2 [some y0, l1, l2, l3] r (σ, sz, k, c) = (zk_isr y0 ∧ zk_run E (zk_VT E) M_L_removeDoor (C_L_removeDoor E) P PX K n 3 [some y0, l1, l2, l3] (y0 :: r) (σ, sz, k, c))) ∧
  (∀ (n : Nat) (l0 l2 l3 : Option Value) (y1 : Int32) (r : List Value) (σ : zk_S) (sz k c : Nat), zk_run E (zk_VT E) M_L_removeDoor (C_L_removeDoor E) P PX K (n + 1) 3 [l0, some (.int y1), l2, l3] r (σ, sz, k, c) = zk_run E (zk_VT E) M_L_removeDoor (C_L_removeDoor E) P PX K n 4 [l0, some (.int y1), l2, l3] (.int y1 :: r) (σ, sz, k, c)) ∧
  (∀ (n : Nat) (l0 l1 l2 l3 : Option Value) (v0 : Value) (v1 : Value) (v2 : Value) (v3 : Value)  (σ : zk_S) (sz k c : Nat), zk_run E (zk_VT E) M_L_removeDoor (C_L_removeDoor E) P PX K (n + 1) 4 [l0, l1, l2, l3] [v0, v1, v2, v3] (σ, sz, k, c) = (k + 1 ≤ 1 ∧ c + 6 ≤ 6 ∧ (zk_rv (zk_VT E) (fun ci => Nat.beq ci 9) (sp_X10_removeDoor E)) [v1, v0] σ sz (fun v s2 z2 => zk_run E (zk_VT E) M_L_removeDoor (C_L_removeDoor E) P PX K n 7 [l0, l1, l2, l3] (zk_psh v [v2, v3]) (s2, z2, k + 1, c + 6)) (fun X s2 z2 => (match (match Nat.beq 4 4 with
  | true => if X = "java/lang/IndexOutOfBoundsException" then some 12 else none
  | false => none : Option Nat) with
    | some hp => ∀ q : Nat, zk_run E (zk_VT E) M_L_removeDoor (C_L_removeDoor E) P PX K n hp [l0, l1, l2, l3] [.ref q] (s2, z2, k + 1, c + 6)
    | none => PX X s2 z2)))) ∧
  (∀ (n : Nat) (l0 l1 l2 l3 : Option Value) (x : Int32) (r : List Value) (σ : zk_S) (sz k c : Nat), zk_run E (zk_VT E) M_L_removeDoor (C_L_removeDoor E) P PX K (n + 1) 7 [l0, l1, l2, l3] (.int x :: r) (σ, sz, k, c) = zk_run E (zk_VT E) M_L_removeDoor (C_L_removeDoor E) P PX K n 8 [l0, l1, l2, l3] (.long (x.toInt64) :: r) (σ, sz, k, c)) ∧
  (∀ (n : Nat) (l0 l1 l2 l3 : Option Value) (a : Nat) (i : Int32) (x : Int64) (r : List Value) (σ : zk_S) (sz k c : Nat), zk_run E (zk_VT E) M_L_removeDoor (C_L_removeDoor E) P PX K (n + 1) 8 [l0, l1, l2, l3] (.long x :: .int i :: .ref a :: r) (σ, sz, k, c) = zk_lst (zk_view E σ a) (zk_ar E 2) i x (fun e => zk_wrok E σ a e ∧ zk_run E (zk_VT E) M_L_removeDoor (C_L_removeDoor E) P PX K n 9 [l0, l1, l2, l3] r (zk_wr E σ a e, sz, k, c))) ∧
  (∀ (n : Nat) (l0 l1 l2 l3 : Option Value)  (r : List Value) (σ : zk_S) (sz k c : Nat), zk_run E (zk_VT E) M_L_removeDoor (C_L_removeDoor E) P PX K (n + 1) 9 [l0, l1, l2, l3] r (σ, sz, k, c) = zk_run E (zk_VT E) M_L_removeDoor (C_L_removeDoor E) P PX K n 15 [l0, l1, l2, l3] r (σ, sz, k, c)) ∧
  (∀ (n : Nat) (l0 l1 l2 l3 : Option Value) (x : Value) (r : List Value) (σ : zk_S) (sz k c : Nat), zk_run E (zk_VT E) M_L_removeDoor (C_L_removeDoor E) P PX K (n + 1) 12 [l0, l1, l2, l3] (x :: r) (σ, sz, k, c) = (zk_isr x ∧ zk_run E (zk_VT E) M_L_removeDoor (C_L_removeDoor E) P PX K n 13 [l0, l1, zk_kl l2, some (x)] r (σ, sz, k, c))) ∧
  (∀ (n : Nat) (l0 l1 l2 l3 : Option Value)  (r : List Value) (σ : zk_S) (sz k c : Nat), zk_run E (zk_VT E) M_L_removeDoor (C_L_removeDoor E) P PX K (n + 1) 13 [l0, l1, l2, l3] r (σ, sz, k, c) = zk_run E (zk_VT E) M_L_removeDoor (C_L_removeDoor E) P PX K n 14 [l0, l1, l2, l3] (.int (1) :: r) (σ, sz, k, c)) ∧
  (∀ (n : Nat) (l0 l1 l2 l3 : Option Value) (x : Int32)  (σ : zk_S) (sz k c : Nat), zk_run E (zk_VT E) M_L_removeDoor (C_L_removeDoor E) P PX K (n + 1) 14 [l0, l1, l2, l3] [.int x] (σ, sz, k, c) = (zk_nok (some (.int)) x ∧ P (some (.int x)) σ sz ∧ k ≤ 1 ∧ c ≤ 6)) ∧
  (∀ (n : Nat) (l0 l1 l2 l3 : Option Value)  (r : List Value) (σ : zk_S) (sz k c : Nat), zk_run E (zk_VT E) M_L_removeDoor (C_L_removeDoor E) P PX K (n + 1) 15 [l0, l1, l2, l3] r (σ, sz, k, c) = zk_run E (zk_VT E) M_L_removeDoor (C_L_removeDoor E) P PX K n 16 [l0, l1, l2, l3] (.int (0) :: r) (σ, sz, k, c)) ∧
  (∀ (n : Nat) (l0 l1 l2 l3 : Option Value) (x : Int32)  (σ : zk_S) (sz k c : Nat), zk_run E (zk_VT E) M_L_removeDoor (C_L_removeDoor E) P PX K (n + 1) 16 [l0, l1, l2, l3] [.int x] (σ, sz, k, c) = (zk_nok (some (.int)) x ∧ P (some (.int x)) σ sz ∧ k ≤ 1 ∧ c ≤ 6)) ∧
  (∀ (n : Nat) (l0 l1 l2 l3 : Option Value) (r : List Value) (w : zk_W zk_S), zk_go E (zk_VT E) M_L_removeDoor (C_L_removeDoor E) P PX K n 0 [l0, l1, l2, l3] r w = zk_run E (zk_VT E) M_L_removeDoor (C_L_removeDoor E) P PX K (n + 1) 0 [l0, l1, l2, l3] r w) := ⟨by intros; rfl, by intros; rfl, by intros; rfl, by intros; rfl, by intros; rfl, by intros; rfl, by intros; rfl, by intros; rfl, by intros; rfl, by intros; rfl, by intros; rfl, by intros; rfl, by intros; rfl, by intros; rfl⟩
set_option maxHeartbeats 4000000 in
theorem vc_L_removeDoor (E : zk_E) : zk_VCH E (zk_VT E) M_L_removeDoor (C_L_removeDoor E) 4 (sp_L_removeDoor E) := by
  intro av σ sz P h
  obtain ⟨J, N, Q, O, U⟩ := σ
  unfold sp_L_removeDoor at h
  split at h
  case h_2 => exact h.elim
  rename_i a r o
  refine ⟨Nat.le_of_ble_eq_true rfl, fun G hG => ?_⟩
  change G 0 [some (.ref a), some (.int r), some (.ref o), none] [] ((J, N, Q, O, U), sz, 0, 0)
  try dsimp only at h
  obtain ⟨rfl, rfl, hli, h⟩ := h
  have hms := hli.2.1.1
  unfold R_removeDoor at h
  dsimp only at h
  (refine hG 900 _ _ _ _ ?_; simp only [r_L_removeDoor, zk_kl_none, zk_kl_int, zk_kl_ref, zk_kl_null, zk_kl_long, zk_kl_rf, zk_isr_ref, zk_isr_null, zk_isr_rf9, zk_c1_int, zk_c1_ref, zk_c1_null, zk_c1_rf, zk_psh_some, zk_psh_none, zk_nok_int, zk_nok_bool0, zk_nok_bool1, zk_nok_b, zk_fok_0, zk_fok_1, zk_fok_2, zk_fok_n, zk_fok_rf, zb_f, zb_p, zb_i, zb_a, zb_s, zk_nth_0, zk_nth_s, zk_fld_o, zk_put_o, zk_rv_eq, zk_ri_eq, zk_is_o, List.mem_cons, List.not_mem_nil, or_false, false_or, or_true, true_or, and_true, true_and, not_false_iff, not_true_eq_false, true_implies, false_implies, imp_self, implies_true, forall_const, zk_lit, zk_uj_ap, zk_un_ap, zk_un_un, zk_uj_uj, Nat.reduceEqDiff, eq_self, zk_bq, Bool.true_or, Bool.false_or, Nat.le_refl, Nat.zero_add, Nat.add_zero, Nat.reduceAdd, Nat.reduceLeDiff, Nat.le_zero_eq, and_self, and_false, false_and, ite_true, ite_false, Nat.zero_le, List.length_cons, List.length_nil, Option.some.injEq, forall_eq', reduceCtorEq, spe_X10_removeDoor])
  refine ⟨J, N, hli.2, ?_⟩
  refine DRD.mk hms (fun j hj ej => ?_) (fun ej => ?_)
  · intro J2 N2 Q2 O2 z2 hz h04 hJ hN hxr
    simp only [r_L_removeDoor, zk_kl_none, zk_kl_int, zk_kl_ref, zk_kl_null, zk_kl_long, zk_kl_rf, zk_isr_ref, zk_isr_null, zk_isr_rf9, zk_c1_int, zk_c1_ref, zk_c1_null, zk_c1_rf, zk_psh_some, zk_psh_none, zk_nok_int, zk_nok_bool0, zk_nok_bool1, zk_nok_b, zk_fok_0, zk_fok_1, zk_fok_2, zk_fok_n, zk_fok_rf, zb_f, zb_p, zb_i, zb_a, zb_s, zk_nth_0, zk_nth_s, zk_fld_o, zk_put_o, zk_rv_eq, zk_ri_eq, zk_is_o, List.mem_cons, List.not_mem_nil, or_false, false_or, or_true, true_or, and_true, true_and, not_false_iff, not_true_eq_false, true_implies, false_implies, imp_self, implies_true, forall_const, zk_lit, zk_uj_ap, zk_un_ap, zk_un_un, zk_uj_uj, Nat.reduceEqDiff, eq_self, zk_bq, Bool.true_or, Bool.false_or, Nat.le_refl, Nat.zero_add, Nat.add_zero, Nat.reduceAdd, Nat.reduceLeDiff, Nat.le_zero_eq, and_self, and_false, false_and, ite_true, ite_false, Nat.zero_le, List.length_cons, List.length_nil, Option.some.injEq, forall_eq', reduceCtorEq, hc_q, hc_s, hc_v, hc_i]
    exact h 0 _ _ (Or.inl ⟨j, hj, ej, ⟨⟨rfl, up_L U _⟩, hz, hJ, hN, hxr.grow (fun _ _ => rfl) (Nat.le_refl _), Or.inl h04⟩⟩)
  · intro O2 z2 hz hO
    simp only [r_L_removeDoor, zk_kl_none, zk_kl_int, zk_kl_ref, zk_kl_null, zk_kl_long, zk_kl_rf, zk_isr_ref, zk_isr_null, zk_isr_rf9, zk_c1_int, zk_c1_ref, zk_c1_null, zk_c1_rf, zk_psh_some, zk_psh_none, zk_nok_int, zk_nok_bool0, zk_nok_bool1, zk_nok_b, zk_fok_0, zk_fok_1, zk_fok_2, zk_fok_n, zk_fok_rf, zb_f, zb_p, zb_i, zb_a, zb_s, zk_nth_0, zk_nth_s, zk_fld_o, zk_put_o, zk_rv_eq, zk_ri_eq, zk_is_o, List.mem_cons, List.not_mem_nil, or_false, false_or, or_true, true_or, and_true, true_and, not_false_iff, not_true_eq_false, true_implies, false_implies, imp_self, implies_true, forall_const, zk_lit, zk_uj_ap, zk_un_ap, zk_un_un, zk_uj_uj, Nat.reduceEqDiff, eq_self, zk_bq, Bool.true_or, Bool.false_or, Nat.le_refl, Nat.zero_add, Nat.add_zero, Nat.reduceAdd, Nat.reduceLeDiff, Nat.le_zero_eq, and_self, and_false, false_and, ite_true, ite_false, Nat.zero_le, List.length_cons, List.length_nil, Option.some.injEq, forall_eq', reduceCtorEq, hc_q, hc_s, hc_v, hc_i]
    exact h 1 _ _ (Or.inr ⟨ej, ⟨rfl, LC.zy hli hO hz⟩⟩)
def hh_L_removeDoor : List (Nat × Nat × Nat × Nat) := [(0, 9, 12, 21)]
theorem HO_L_removeDoor : zk_HO RL hh_L_removeDoor M_L_removeDoor := by
  intro pc X hp h
  have h2 : (match Nat.beq pc 4 with | true => (if X = "java/lang/IndexOutOfBoundsException" then some 12 else none) | false => none : Option Nat) = some hp := h
  clear h
  split at h2
  · rename_i e
    have e := Nat.eq_of_beq_eq_true e
    subst e
    by_cases e0 : X = "java/lang/IndexOutOfBoundsException"
    · subst e0
      rw [if_pos rfl] at h2
      cases h2
      exact ⟨[], ⟨0, 9, 12, 21⟩, [], rfl, fun _ h => absurd h List.not_mem_nil, by decide, by decide, rfl, "java/lang/IndexOutOfBoundsException", zk_wi 545 (by decide +kernel) rfl, zk_tb 556 (by decide +kernel)⟩
    rw [if_neg e0] at h2
    cases h2
  · cases h2
theorem ct_L_removeDoor {l : Launch} (hl : l.stackTraces = false) (E : zk_E) : zk_CH l E (zk_VT E) yL_removeDoor cL_removeDoor 4 (some (.int)) hh_L_removeDoor rm_L_removeDoor (sp_L_removeDoor E) := by
  refine zk_methH (M := M_L_removeDoor) (C := C_L_removeDoor E) (by decide +kernel) rfl HO_L_removeDoor (zk_VT_ok E) MO_L_removeDoor TO_L_removeDoor (fun _ => rfl) ?_ (vc_L_removeDoor E)
  exact fun p e s m args below meth c X pc n mc ms sp2 h => by
    have h2 := zk_lka_mem h
    simp only [List.mem_cons, List.not_mem_nil, or_false, Prod.mk.injEq] at h2
    rcases h2 with ⟨rfl, rfl, rfl, rfl, rfl⟩
    exact zk_coV (idx := 43) X (ct_X10_removeDoor hl E) (List.forall_mem_cons.mpr ⟨zk_wi 790 (by decide +kernel) rfl, List.forall_mem_cons.mpr ⟨zk_wi 791 (by decide +kernel) rfl, List.forall_mem_cons.mpr ⟨zk_wi 792 (by decide +kernel) rfl, List.forall_mem_cons.mpr ⟨zk_wi 1 (by decide +kernel) rfl, List.forall_mem_cons.mpr ⟨zk_wi 793 (by decide +kernel) rfl, fun _ h => absurd h List.not_mem_nil⟩⟩⟩⟩⟩) (fun ci h => by
      have h := Nat.eq_of_beq_eq_true h
      subst h
      exact ⟨_, _, rfl⟩) (by decide +kernel) ⟨by decide, by decide, by decide +kernel⟩ ⟨by decide, by decide⟩
def R_setLimit (E : zk_E) (σ : zk_S) (sz : Nat) (r : Int32) (l : Int32) (k : Int32) (σ2 : zk_S) (sz2 : Nat) : Prop := (¬ c_lim r l = 0 ∧ WN E σ sz σ2 sz2 k (c_lim r l)) ∨ (c_lim r l = 0 ∧ WO E σ sz σ2 sz2 k (σ.2.1 46 r.toNatClampNeg).toInt64 σ.1 (uN_lim σ.2.1 r.toNatClampNeg l))
def sp_L_setLimit (E : zk_E) : zk_Sp zk_S := fun av σ sz P PX => match av with
  | [.ref a, .int r, .int l, .ref o] => a = zk_ad E 0 ∧ o = zk_ad E 54 ∧ LI E sz σ ∧ ∀ k σ2 sz2, R_setLimit E σ sz r l k σ2 sz2 → P (some (.int k)) σ2 sz2
  | _ => False
theorem spe_L_setLimit (E : zk_E) (a : Nat) (r : Int32) (l : Int32) (o : Nat) (σ : zk_S) (sz : Nat) (P : zk_P zk_S) (PX : zk_X zk_S) : sp_L_setLimit E [.ref a, .int r, .int l, .ref o] σ sz P PX = (a = zk_ad E 0 ∧ o = zk_ad E 54 ∧ LI E sz σ ∧ ∀ k σ2 sz2, R_setLimit E σ sz r l k σ2 sz2 → P (some (.int k)) σ2 sz2) := propext Iff.rfl
def C_L_setLimit (E : zk_E) : zk_Cl zk_S := zk_lka [(5, 3, 2, 12, zk_rv (zk_VT E) (fun ci => Nat.beq ci 9) (sp_X10_setLimit E))]
theorem r_L_setLimit (E : zk_E) (P : zk_P zk_S) (PX : zk_X zk_S) (K : Nat → zk_L → List Value → zk_W zk_S → Prop) : (∀ (n : Nat) (l0 l1 l2 l4 : Option Value) (y3 : Value) (r : List Value) (σ : zk_S) (sz k c : Nat), zk_run E (zk_VT E) M_L_setLimit (C_L_setLimit E) P PX K (n + 1) 0 [l0, l1, l2, some y3, l4] r (σ, sz, k, c) = (zk_isr y3 ∧ zk_run E (zk_VT E) M_L_setLimit (C_L_setLimit E) P PX K n 1 [l0, l1, l2, some y3, l4] (y3 :: r) (σ, sz, k, c))) ∧
  (∀ (n : Nat) (l0 l1 l2 l3 l4 : Option Value)  (r : List Value) (σ : zk_S) (sz k c : Nat), zk_run E (zk_VT E) M_L_setLimit (C_L_setLimit E) P PX K (n + 1) 1 [l0, l1, l2, l3, l4] r (σ, sz, k, c) = zk_run E (zk_VT E) M_L_setLimit (C_L_setLimit E) P PX K n 2 [l0, l1, l2, l3, l4] (.int (0) :: r) (σ, sz, k, c)) ∧
  (∀ (n : Nat) (l1 l2 l3 l4 : Option Value) (y0 : Value) (r : List Value) (σ : zk_S) (sz k c : Nat), zk_run E (zk_VT E) M_L_setLimit (C_L_setLimit E) P PX K (n + 1) 2 [some y0, l1, l2, l3, l4] r (σ, sz, k, c) = (zk_isr y0 ∧ zk_run E (zk_VT E) M_L_setLimit (C_L_setLimit E) P PX K n 3 [some y0, l1, l2, l3, l4] (y0 :: r) (σ, sz, k, c))) ∧
  (∀ (n : Nat) (l0 l2 l3 l4 : Option Value) (y1 : Int32) (r : List Value) (σ : zk_S) (sz k c : Nat), zk_run E (zk_VT E) M_L_setLimit (C_L_setLimit E) P PX K (n + 1) 3 [l0, some (.int y1), l2, l3, l4] r (σ, sz, k, c) = zk_run E (zk_VT E) M_L_setLimit (C_L_setLimit E) P PX K n 4 [l0, some (.int y1), l2, l3, l4] (.int y1 :: r) (σ, sz, k, c)) ∧
  (∀ (n : Nat) (l0 l1 l3 l4 : Option Value) (y2 : Int32) (r : List Value) (σ : zk_S) (sz k c : Nat), zk_run E (zk_VT E) M_L_setLimit (C_L_setLimit E) P PX K (n + 1) 4 [l0, l1, some (.int y2), l3, l4] r (σ, sz, k, c) = zk_run E (zk_VT E) M_L_setLimit (C_L_setLimit E) P PX K n 5 [l0, l1, some (.int y2), l3, l4] (.int y2 :: r) (σ, sz, k, c)) ∧
  (∀ (n : Nat) (l0 l1 l2 l3 l4 : Option Value) (v0 : Value) (v1 : Value) (v2 : Value) (v3 : Value) (v4 : Value)  (σ : zk_S) (sz k c : Nat), zk_run E (zk_VT E) M_L_setLimit (C_L_setLimit E) P PX K (n + 1) 5 [l0, l1, l2, l3, l4] [v0, v1, v2, v3, v4] (σ, sz, k, c) = (k + 2 ≤ 2 ∧ c + 12 ≤ 12 ∧ (zk_rv (zk_VT E) (fun ci => Nat.beq ci 9) (sp_X10_setLimit E)) [v2, v1, v0] σ sz (fun v s2 z2 => zk_run E (zk_VT E) M_L_setLimit (C_L_setLimit E) P PX K n 8 [l0, l1, l2, l3, l4] (zk_psh v [v3, v4]) (s2, z2, k + 2, c + 12)) (fun X s2 z2 => (match (match Nat.beq 5 5 with
  | true => if X = "java/lang/IndexOutOfBoundsException" then some 13 else if X = "java/lang/IllegalArgumentException" then some 17 else none
  | false => none : Option Nat) with
    | some hp => ∀ q : Nat, zk_run E (zk_VT E) M_L_setLimit (C_L_setLimit E) P PX K n hp [l0, l1, l2, l3, l4] [.ref q] (s2, z2, k + 2, c + 12)
    | none => PX X s2 z2)))) ∧
  (∀ (n : Nat) (l0 l1 l2 l3 l4 : Option Value) (x : Int32) (r : List Value) (σ : zk_S) (sz k c : Nat), zk_run E (zk_VT E) M_L_setLimit (C_L_setLimit E) P PX K (n + 1) 8 [l0, l1, l2, l3, l4] (.int x :: r) (σ, sz, k, c) = zk_run E (zk_VT E) M_L_setLimit (C_L_setLimit E) P PX K n 9 [l0, l1, l2, l3, l4] (.long (x.toInt64) :: r) (σ, sz, k, c)) ∧
  (∀ (n : Nat) (l0 l1 l2 l3 l4 : Option Value) (a : Nat) (i : Int32) (x : Int64) (r : List Value) (σ : zk_S) (sz k c : Nat), zk_run E (zk_VT E) M_L_setLimit (C_L_setLimit E) P PX K (n + 1) 9 [l0, l1, l2, l3, l4] (.long x :: .int i :: .ref a :: r) (σ, sz, k, c) = zk_lst (zk_view E σ a) (zk_ar E 2) i x (fun e => zk_wrok E σ a e ∧ zk_run E (zk_VT E) M_L_setLimit (C_L_setLimit E) P PX K n 10 [l0, l1, l2, l3, l4] r (zk_wr E σ a e, sz, k, c))) ∧
  (∀ (n : Nat) (l0 l1 l2 l3 l4 : Option Value)  (r : List Value) (σ : zk_S) (sz k c : Nat), zk_run E (zk_VT E) M_L_setLimit (C_L_setLimit E) P PX K (n + 1) 10 [l0, l1, l2, l3, l4] r (σ, sz, k, c) = zk_run E (zk_VT E) M_L_setLimit (C_L_setLimit E) P PX K n 21 [l0, l1, l2, l3, l4] r (σ, sz, k, c)) ∧
  (∀ (n : Nat) (l0 l1 l2 l3 l4 : Option Value) (x : Value) (r : List Value) (σ : zk_S) (sz k c : Nat), zk_run E (zk_VT E) M_L_setLimit (C_L_setLimit E) P PX K (n + 1) 13 [l0, l1, l2, l3, l4] (x :: r) (σ, sz, k, c) = (zk_isr x ∧ zk_run E (zk_VT E) M_L_setLimit (C_L_setLimit E) P PX K n 15 [l0, l1, l2, zk_kl l3, some (x)] r (σ, sz, k, c))) ∧
  (∀ (n : Nat) (l0 l1 l2 l3 l4 : Option Value)  (r : List Value) (σ : zk_S) (sz k c : Nat), zk_run E (zk_VT E) M_L_setLimit (C_L_setLimit E) P PX K (n + 1) 15 [l0, l1, l2, l3, l4] r (σ, sz, k, c) = zk_run E (zk_VT E) M_L_setLimit (C_L_setLimit E) P PX K n 16 [l0, l1, l2, l3, l4] (.int (1) :: r) (σ, sz, k, c)) ∧
  (∀ (n : Nat) (l0 l1 l2 l3 l4 : Option Value) (x : Int32)  (σ : zk_S) (sz k c : Nat), zk_run E (zk_VT E) M_L_setLimit (C_L_setLimit E) P PX K (n + 1) 16 [l0, l1, l2, l3, l4] [.int x] (σ, sz, k, c) = (zk_nok (some (.int)) x ∧ P (some (.int x)) σ sz ∧ k ≤ 2 ∧ c ≤ 12)) ∧
  (∀ (n : Nat) (l0 l1 l2 l3 l4 : Option Value) (x : Value) (r : List Value) (σ : zk_S) (sz k c : Nat), zk_run E (zk_VT E) M_L_setLimit (C_L_setLimit E) P PX K (n + 1) 17 [l0, l1, l2, l3, l4] (x :: r) (σ, sz, k, c) = (zk_isr x ∧ zk_run E (zk_VT E) M_L_setLimit (C_L_setLimit E) P PX K n 19 [l0, l1, l2, zk_kl l3, some (x)] r (σ, sz, k, c))) ∧
  (∀ (n : Nat) (l0 l1 l2 l3 l4 : Option Value)  (r : List Value) (σ : zk_S) (sz k c : Nat), zk_run E (zk_VT E) M_L_setLimit (C_L_setLimit E) P PX K (n + 1) 19 [l0, l1, l2, l3, l4] r (σ, sz, k, c) = zk_run E (zk_VT E) M_L_setLimit (C_L_setLimit E) P PX K n 20 [l0, l1, l2, l3, l4] (.int (2) :: r) (σ, sz, k, c)) ∧
  (∀ (n : Nat) (l0 l1 l2 l3 l4 : Option Value) (x : Int32)  (σ : zk_S) (sz k c : Nat), zk_run E (zk_VT E) M_L_setLimit (C_L_setLimit E) P PX K (n + 1) 20 [l0, l1, l2, l3, l4] [.int x] (σ, sz, k, c) = (zk_nok (some (.int)) x ∧ P (some (.int x)) σ sz ∧ k ≤ 2 ∧ c ≤ 12)) ∧
  (∀ (n : Nat) (l0 l1 l2 l3 l4 : Option Value)  (r : List Value) (σ : zk_S) (sz k c : Nat), zk_run E (zk_VT E) M_L_setLimit (C_L_setLimit E) P PX K (n + 1) 21 [l0, l1, l2, l3, l4] r (σ, sz, k, c) = zk_run E (zk_VT E) M_L_setLimit (C_L_setLimit E) P PX K n 22 [l0, l1, l2, l3, l4] (.int (0) :: r) (σ, sz, k, c)) ∧
  (∀ (n : Nat) (l0 l1 l2 l3 l4 : Option Value) (x : Int32)  (σ : zk_S) (sz k c : Nat), zk_run E (zk_VT E) M_L_setLimit (C_L_setLimit E) P PX K (n + 1) 22 [l0, l1, l2, l3, l4] [.int x] (σ, sz, k, c) = (zk_nok (some (.int)) x ∧ P (some (.int x)) σ sz ∧ k ≤ 2 ∧ c ≤ 12)) ∧
  (∀ (n : Nat) (l0 l1 l2 l3 l4 : Option Value) (r : List Value) (w : zk_W zk_S), zk_go E (zk_VT E) M_L_setLimit (C_L_setLimit E) P PX K n 0 [l0, l1, l2, l3, l4] r w = zk_run E (zk_VT E) M_L_setLimit (C_L_setLimit E) P PX K (n + 1) 0 [l0, l1, l2, l3, l4] r w) := ⟨by intros; rfl, by intros; rfl, by intros; rfl, by intros; rfl, by intros; rfl, by intros; rfl, by intros; rfl, by intros; rfl, by intros; rfl, by intros; rfl, by intros; rfl, by intros; rfl, by intros; rfl, by intros; rfl, by intros; rfl, by intros; rfl, by intros; rfl, by intros; rfl⟩
set_option maxHeartbeats 4000000 in
theorem vc_L_setLimit (E : zk_E) : zk_VCH E (zk_VT E) M_L_setLimit (C_L_setLimit E) 5 (sp_L_setLimit E) := by
  intro av σ sz P h
  obtain ⟨J, N, Q, O, U⟩ := σ
  unfold sp_L_setLimit at h
  split at h
  case h_2 => exact h.elim
  rename_i a r l o
  refine ⟨Nat.le_of_ble_eq_true rfl, fun G hG => ?_⟩
  change G 0 [some (.ref a), some (.int r), some (.int l), some (.ref o), none] [] ((J, N, Q, O, U), sz, 0, 0)
  try dsimp only at h
  obtain ⟨rfl, rfl, hli, h⟩ := h
  have hms := hli.2.1.1
  unfold R_setLimit at h
  dsimp only at h
  (refine hG 900 _ _ _ _ ?_; simp only [r_L_setLimit, zk_kl_none, zk_kl_int, zk_kl_ref, zk_kl_null, zk_kl_long, zk_kl_rf, zk_isr_ref, zk_isr_null, zk_isr_rf9, zk_c1_int, zk_c1_ref, zk_c1_null, zk_c1_rf, zk_psh_some, zk_psh_none, zk_nok_int, zk_nok_bool0, zk_nok_bool1, zk_nok_b, zk_fok_0, zk_fok_1, zk_fok_2, zk_fok_n, zk_fok_rf, zb_f, zb_p, zb_i, zb_a, zb_s, zk_nth_0, zk_nth_s, zk_fld_o, zk_put_o, zk_rv_eq, zk_ri_eq, zk_is_o, List.mem_cons, List.not_mem_nil, or_false, false_or, or_true, true_or, and_true, true_and, not_false_iff, not_true_eq_false, true_implies, false_implies, imp_self, implies_true, forall_const, zk_lit, zk_uj_ap, zk_un_ap, zk_un_un, zk_uj_uj, Nat.reduceEqDiff, eq_self, zk_bq, Bool.true_or, Bool.false_or, Nat.le_refl, Nat.zero_add, Nat.add_zero, Nat.reduceAdd, Nat.reduceLeDiff, Nat.le_zero_eq, and_self, and_false, false_and, ite_true, ite_false, Nat.zero_le, List.length_cons, List.length_nil, Option.some.injEq, forall_eq', reduceCtorEq, spe_X10_setLimit])
  refine ⟨J, N, hli.2, ?_⟩
  refine ⟨fun hc => ?_, fun hc => ?_, fun hc => ?_⟩
  · intro O2 z2 hz hO
    simp only [r_L_setLimit, zk_kl_none, zk_kl_int, zk_kl_ref, zk_kl_null, zk_kl_long, zk_kl_rf, zk_isr_ref, zk_isr_null, zk_isr_rf9, zk_c1_int, zk_c1_ref, zk_c1_null, zk_c1_rf, zk_psh_some, zk_psh_none, zk_nok_int, zk_nok_bool0, zk_nok_bool1, zk_nok_b, zk_fok_0, zk_fok_1, zk_fok_2, zk_fok_n, zk_fok_rf, zb_f, zb_p, zb_i, zb_a, zb_s, zk_nth_0, zk_nth_s, zk_fld_o, zk_put_o, zk_rv_eq, zk_ri_eq, zk_is_o, List.mem_cons, List.not_mem_nil, or_false, false_or, or_true, true_or, and_true, true_and, not_false_iff, not_true_eq_false, true_implies, false_implies, imp_self, implies_true, forall_const, zk_lit, zk_uj_ap, zk_un_ap, zk_un_un, zk_uj_uj, Nat.reduceEqDiff, eq_self, zk_bq, Bool.true_or, Bool.false_or, Nat.le_refl, Nat.zero_add, Nat.add_zero, Nat.reduceAdd, Nat.reduceLeDiff, Nat.le_zero_eq, and_self, and_false, false_and, ite_true, ite_false, Nat.zero_le, List.length_cons, List.length_nil, Option.some.injEq, forall_eq', reduceCtorEq, hc_q, hc_s, hc_v, hc_i]
    exact h 1 _ _ (Or.inl ⟨fun w => absurd (hc.symm.trans w) (by decide), hc.symm, LC.zy hli hO hz⟩)
  · intro O2 z2 hz hO
    simp only [r_L_setLimit, zk_kl_none, zk_kl_int, zk_kl_ref, zk_kl_null, zk_kl_long, zk_kl_rf, zk_isr_ref, zk_isr_null, zk_isr_rf9, zk_c1_int, zk_c1_ref, zk_c1_null, zk_c1_rf, zk_psh_some, zk_psh_none, zk_nok_int, zk_nok_bool0, zk_nok_bool1, zk_nok_b, zk_fok_0, zk_fok_1, zk_fok_2, zk_fok_n, zk_fok_rf, zb_f, zb_p, zb_i, zb_a, zb_s, zk_nth_0, zk_nth_s, zk_fld_o, zk_put_o, zk_rv_eq, zk_ri_eq, zk_is_o, List.mem_cons, List.not_mem_nil, or_false, false_or, or_true, true_or, and_true, true_and, not_false_iff, not_true_eq_false, true_implies, false_implies, imp_self, implies_true, forall_const, zk_lit, zk_uj_ap, zk_un_ap, zk_un_un, zk_uj_uj, Nat.reduceEqDiff, eq_self, zk_bq, Bool.true_or, Bool.false_or, Nat.le_refl, Nat.zero_add, Nat.add_zero, Nat.reduceAdd, Nat.reduceLeDiff, Nat.le_zero_eq, and_self, and_false, false_and, ite_true, ite_false, Nat.zero_le, List.length_cons, List.length_nil, Option.some.injEq, forall_eq', reduceCtorEq, hc_q, hc_s, hc_v, hc_i]
    exact h 2 _ _ (Or.inl ⟨fun w => absurd (hc.symm.trans w) (by decide), hc.symm, LC.zy hli hO hz⟩)
  · intro J2 N2 Q2 O2 z2 hz h04 hJ hN hxr
    simp only [r_L_setLimit, zk_kl_none, zk_kl_int, zk_kl_ref, zk_kl_null, zk_kl_long, zk_kl_rf, zk_isr_ref, zk_isr_null, zk_isr_rf9, zk_c1_int, zk_c1_ref, zk_c1_null, zk_c1_rf, zk_psh_some, zk_psh_none, zk_nok_int, zk_nok_bool0, zk_nok_bool1, zk_nok_b, zk_fok_0, zk_fok_1, zk_fok_2, zk_fok_n, zk_fok_rf, zb_f, zb_p, zb_i, zb_a, zb_s, zk_nth_0, zk_nth_s, zk_fld_o, zk_put_o, zk_rv_eq, zk_ri_eq, zk_is_o, List.mem_cons, List.not_mem_nil, or_false, false_or, or_true, true_or, and_true, true_and, not_false_iff, not_true_eq_false, true_implies, false_implies, imp_self, implies_true, forall_const, zk_lit, zk_uj_ap, zk_un_ap, zk_un_un, zk_uj_uj, Nat.reduceEqDiff, eq_self, zk_bq, Bool.true_or, Bool.false_or, Nat.le_refl, Nat.zero_add, Nat.add_zero, Nat.reduceAdd, Nat.reduceLeDiff, Nat.le_zero_eq, and_self, and_false, false_and, ite_true, ite_false, Nat.zero_le, List.length_cons, List.length_nil, Option.some.injEq, forall_eq', reduceCtorEq, hc_q, hc_s, hc_v, hc_i]
    exact h 0 _ _ (Or.inr ⟨hc, ⟨⟨rfl, up_L U _⟩, hz, hJ, hN, hxr.grow (fun _ _ => rfl) (Nat.le_refl _), Or.inl h04⟩⟩)
def hh_L_setLimit : List (Nat × Nat × Nat × Nat) := [(0, 10, 13, 21), (0, 10, 17, 13)]
theorem HO_L_setLimit : zk_HO RL hh_L_setLimit M_L_setLimit := by
  intro pc X hp h
  have h2 : (match Nat.beq pc 5 with | true => (if X = "java/lang/IndexOutOfBoundsException" then some 13 else if X = "java/lang/IllegalArgumentException" then some 17 else none) | false => none : Option Nat) = some hp := h
  clear h
  split at h2
  · rename_i e
    have e := Nat.eq_of_beq_eq_true e
    subst e
    by_cases e0 : X = "java/lang/IndexOutOfBoundsException"
    · subst e0
      rw [if_pos rfl] at h2
      cases h2
      exact ⟨[], ⟨0, 10, 13, 21⟩, [⟨0, 10, 17, 13⟩], rfl, fun _ h => absurd h List.not_mem_nil, by decide, by decide, rfl, "java/lang/IndexOutOfBoundsException", zk_wi 545 (by decide +kernel) rfl, zk_tb 556 (by decide +kernel)⟩
    by_cases e1 : X = "java/lang/IllegalArgumentException"
    · subst e1
      rw [if_neg e0, if_pos rfl] at h2
      cases h2
      exact ⟨[⟨0, 10, 13, 21⟩], ⟨0, 10, 17, 13⟩, [], rfl, List.forall_mem_cons.mpr ⟨⟨by decide, "java/lang/IndexOutOfBoundsException", zk_wi 545 (by decide +kernel) rfl, by decide⟩, fun _ h => absurd h List.not_mem_nil⟩, by decide, by decide, rfl, "java/lang/IllegalArgumentException", zk_wi 394 (by decide +kernel) rfl, zk_tb 405 (by decide +kernel)⟩
    rw [if_neg e0, if_neg e1] at h2
    cases h2
  · cases h2
theorem ct_L_setLimit {l : Launch} (hl : l.stackTraces = false) (E : zk_E) : zk_CH l E (zk_VT E) yL_setLimit cL_setLimit 5 (some (.int)) hh_L_setLimit rm_L_setLimit (sp_L_setLimit E) := by
  refine zk_methH (M := M_L_setLimit) (C := C_L_setLimit E) (by decide +kernel) rfl HO_L_setLimit (zk_VT_ok E) MO_L_setLimit TO_L_setLimit (fun _ => rfl) ?_ (vc_L_setLimit E)
  exact fun p e s m args below meth c X pc n mc ms sp2 h => by
    have h2 := zk_lka_mem h
    simp only [List.mem_cons, List.not_mem_nil, or_false, Prod.mk.injEq] at h2
    rcases h2 with ⟨rfl, rfl, rfl, rfl, rfl⟩
    exact zk_coV (idx := 46) X (ct_X10_setLimit hl E) (List.forall_mem_cons.mpr ⟨zk_wi 797 (by decide +kernel) rfl, List.forall_mem_cons.mpr ⟨zk_wi 798 (by decide +kernel) rfl, List.forall_mem_cons.mpr ⟨zk_wi 799 (by decide +kernel) rfl, List.forall_mem_cons.mpr ⟨zk_wi 1 (by decide +kernel) rfl, List.forall_mem_cons.mpr ⟨zk_wi 800 (by decide +kernel) rfl, fun _ h => absurd h List.not_mem_nil⟩⟩⟩⟩⟩) (fun ci h => by
      have h := Nat.eq_of_beq_eq_true h
      subst h
      exact ⟨_, _, rfl⟩) (by decide +kernel) ⟨by decide, by decide, by decide +kernel⟩ ⟨by decide, by decide⟩
def R_roomAt (E : zk_E) (σ : zk_S) (sz : Nat) (fl : Int32) (x : Int32) (y : Int32) (k : Int32) (σ2 : zk_S) (sz2 : Nat) : Prop := CD (m_isIn fl 0 2) (WN E σ sz σ2 sz2 k 1) (WO E σ sz σ2 sz2 k (a_at σ.1 σ.2.1 fl x y).toInt64 σ.1 σ.2.1)
def sp_L_roomAt (E : zk_E) : zk_Sp zk_S := fun av σ sz P PX => match av with
  | [.ref a, .int fl, .int x, .int y, .ref o] => a = zk_ad E 0 ∧ o = zk_ad E 54 ∧ LI E sz σ ∧ ∀ k σ2 sz2, R_roomAt E σ sz fl x y k σ2 sz2 → P (some (.int k)) σ2 sz2
  | _ => False
theorem spe_L_roomAt (E : zk_E) (a : Nat) (fl : Int32) (x : Int32) (y : Int32) (o : Nat) (σ : zk_S) (sz : Nat) (P : zk_P zk_S) (PX : zk_X zk_S) : sp_L_roomAt E [.ref a, .int fl, .int x, .int y, .ref o] σ sz P PX = (a = zk_ad E 0 ∧ o = zk_ad E 54 ∧ LI E sz σ ∧ ∀ k σ2 sz2, R_roomAt E σ sz fl x y k σ2 sz2 → P (some (.int k)) σ2 sz2) := propext Iff.rfl
def C_L_roomAt (E : zk_E) : zk_Cl zk_S := zk_lka [(7, 4, 1, 6, zk_rv (zk_VT E) (fun ci => Nat.beq ci 9) (sp_X10_roomAt E))]
theorem r_L_roomAt (E : zk_E) (P : zk_P zk_S) (PX : zk_X zk_S) (K : Nat → zk_L → List Value → zk_W zk_S → Prop) : (∀ (n : Nat) (l0 l1 l2 l3 l5 : Option Value) (y4 : Value) (r : List Value) (σ : zk_S) (sz k c : Nat), zk_run E (zk_VT E) M_L_roomAt (C_L_roomAt E) P PX K (n + 1) 0 [l0, l1, l2, l3, some y4, l5] r (σ, sz, k, c) = (zk_isr y4 ∧ zk_run E (zk_VT E) M_L_roomAt (C_L_roomAt E) P PX K n 2 [l0, l1, l2, l3, some y4, l5] (y4 :: r) (σ, sz, k, c))) ∧
  (∀ (n : Nat) (l0 l1 l2 l3 l4 l5 : Option Value)  (r : List Value) (σ : zk_S) (sz k c : Nat), zk_run E (zk_VT E) M_L_roomAt (C_L_roomAt E) P PX K (n + 1) 2 [l0, l1, l2, l3, l4, l5] r (σ, sz, k, c) = zk_run E (zk_VT E) M_L_roomAt (C_L_roomAt E) P PX K n 3 [l0, l1, l2, l3, l4, l5] (.int (0) :: r) (σ, sz, k, c)) ∧
  (∀ (n : Nat) (l1 l2 l3 l4 l5 : Option Value) (y0 : Value) (r : List Value) (σ : zk_S) (sz k c : Nat), zk_run E (zk_VT E) M_L_roomAt (C_L_roomAt E) P PX K (n + 1) 3 [some y0, l1, l2, l3, l4, l5] r (σ, sz, k, c) = (zk_isr y0 ∧ zk_run E (zk_VT E) M_L_roomAt (C_L_roomAt E) P PX K n 4 [some y0, l1, l2, l3, l4, l5] (y0 :: r) (σ, sz, k, c))) ∧
  (∀ (n : Nat) (l0 l2 l3 l4 l5 : Option Value) (y1 : Int32) (r : List Value) (σ : zk_S) (sz k c : Nat), zk_run E (zk_VT E) M_L_roomAt (C_L_roomAt E) P PX K (n + 1) 4 [l0, some (.int y1), l2, l3, l4, l5] r (σ, sz, k, c) = zk_run E (zk_VT E) M_L_roomAt (C_L_roomAt E) P PX K n 5 [l0, some (.int y1), l2, l3, l4, l5] (.int y1 :: r) (σ, sz, k, c)) ∧
  (∀ (n : Nat) (l0 l1 l3 l4 l5 : Option Value) (y2 : Int32) (r : List Value) (σ : zk_S) (sz k c : Nat), zk_run E (zk_VT E) M_L_roomAt (C_L_roomAt E) P PX K (n + 1) 5 [l0, l1, some (.int y2), l3, l4, l5] r (σ, sz, k, c) = zk_run E (zk_VT E) M_L_roomAt (C_L_roomAt E) P PX K n 6 [l0, l1, some (.int y2), l3, l4, l5] (.int y2 :: r) (σ, sz, k, c)) ∧
  (∀ (n : Nat) (l0 l1 l2 l4 l5 : Option Value) (y3 : Int32) (r : List Value) (σ : zk_S) (sz k c : Nat), zk_run E (zk_VT E) M_L_roomAt (C_L_roomAt E) P PX K (n + 1) 6 [l0, l1, l2, some (.int y3), l4, l5] r (σ, sz, k, c) = zk_run E (zk_VT E) M_L_roomAt (C_L_roomAt E) P PX K n 7 [l0, l1, l2, some (.int y3), l4, l5] (.int y3 :: r) (σ, sz, k, c)) ∧
  (∀ (n : Nat) (l0 l1 l2 l3 l4 l5 : Option Value) (v0 : Value) (v1 : Value) (v2 : Value) (v3 : Value) (v4 : Value) (v5 : Value)  (σ : zk_S) (sz k c : Nat), zk_run E (zk_VT E) M_L_roomAt (C_L_roomAt E) P PX K (n + 1) 7 [l0, l1, l2, l3, l4, l5] [v0, v1, v2, v3, v4, v5] (σ, sz, k, c) = (k + 1 ≤ 1 ∧ c + 6 ≤ 6 ∧ (zk_rv (zk_VT E) (fun ci => Nat.beq ci 9) (sp_X10_roomAt E)) [v3, v2, v1, v0] σ sz (fun v s2 z2 => zk_run E (zk_VT E) M_L_roomAt (C_L_roomAt E) P PX K n 10 [l0, l1, l2, l3, l4, l5] (zk_psh v [v4, v5]) (s2, z2, k + 1, c + 6)) (fun X s2 z2 => (match (match Nat.beq 7 7 with
  | true => if X = "java/lang/IllegalArgumentException" then some 15 else none
  | false => none : Option Nat) with
    | some hp => ∀ q : Nat, zk_run E (zk_VT E) M_L_roomAt (C_L_roomAt E) P PX K n hp [l0, l1, l2, l3, l4, l5] [.ref q] (s2, z2, k + 1, c + 6)
    | none => PX X s2 z2)))) ∧
  (∀ (n : Nat) (l0 l1 l2 l3 l4 l5 : Option Value) (x : Int32) (r : List Value) (σ : zk_S) (sz k c : Nat), zk_run E (zk_VT E) M_L_roomAt (C_L_roomAt E) P PX K (n + 1) 10 [l0, l1, l2, l3, l4, l5] (.int x :: r) (σ, sz, k, c) = zk_run E (zk_VT E) M_L_roomAt (C_L_roomAt E) P PX K n 11 [l0, l1, l2, l3, l4, l5] (.long (x.toInt64) :: r) (σ, sz, k, c)) ∧
  (∀ (n : Nat) (l0 l1 l2 l3 l4 l5 : Option Value) (a : Nat) (i : Int32) (x : Int64) (r : List Value) (σ : zk_S) (sz k c : Nat), zk_run E (zk_VT E) M_L_roomAt (C_L_roomAt E) P PX K (n + 1) 11 [l0, l1, l2, l3, l4, l5] (.long x :: .int i :: .ref a :: r) (σ, sz, k, c) = zk_lst (zk_view E σ a) (zk_ar E 2) i x (fun e => zk_wrok E σ a e ∧ zk_run E (zk_VT E) M_L_roomAt (C_L_roomAt E) P PX K n 12 [l0, l1, l2, l3, l4, l5] r (zk_wr E σ a e, sz, k, c))) ∧
  (∀ (n : Nat) (l0 l1 l2 l3 l4 l5 : Option Value)  (r : List Value) (σ : zk_S) (sz k c : Nat), zk_run E (zk_VT E) M_L_roomAt (C_L_roomAt E) P PX K (n + 1) 12 [l0, l1, l2, l3, l4, l5] r (σ, sz, k, c) = zk_run E (zk_VT E) M_L_roomAt (C_L_roomAt E) P PX K n 19 [l0, l1, l2, l3, l4, l5] r (σ, sz, k, c)) ∧
  (∀ (n : Nat) (l0 l1 l2 l3 l4 l5 : Option Value) (x : Value) (r : List Value) (σ : zk_S) (sz k c : Nat), zk_run E (zk_VT E) M_L_roomAt (C_L_roomAt E) P PX K (n + 1) 15 [l0, l1, l2, l3, l4, l5] (x :: r) (σ, sz, k, c) = (zk_isr x ∧ zk_run E (zk_VT E) M_L_roomAt (C_L_roomAt E) P PX K n 17 [l0, l1, l2, l3, zk_kl l4, some (x)] r (σ, sz, k, c))) ∧
  (∀ (n : Nat) (l0 l1 l2 l3 l4 l5 : Option Value)  (r : List Value) (σ : zk_S) (sz k c : Nat), zk_run E (zk_VT E) M_L_roomAt (C_L_roomAt E) P PX K (n + 1) 17 [l0, l1, l2, l3, l4, l5] r (σ, sz, k, c) = zk_run E (zk_VT E) M_L_roomAt (C_L_roomAt E) P PX K n 18 [l0, l1, l2, l3, l4, l5] (.int (1) :: r) (σ, sz, k, c)) ∧
  (∀ (n : Nat) (l0 l1 l2 l3 l4 l5 : Option Value) (x : Int32)  (σ : zk_S) (sz k c : Nat), zk_run E (zk_VT E) M_L_roomAt (C_L_roomAt E) P PX K (n + 1) 18 [l0, l1, l2, l3, l4, l5] [.int x] (σ, sz, k, c) = (zk_nok (some (.int)) x ∧ P (some (.int x)) σ sz ∧ k ≤ 1 ∧ c ≤ 6)) ∧
  (∀ (n : Nat) (l0 l1 l2 l3 l4 l5 : Option Value)  (r : List Value) (σ : zk_S) (sz k c : Nat), zk_run E (zk_VT E) M_L_roomAt (C_L_roomAt E) P PX K (n + 1) 19 [l0, l1, l2, l3, l4, l5] r (σ, sz, k, c) = zk_run E (zk_VT E) M_L_roomAt (C_L_roomAt E) P PX K n 20 [l0, l1, l2, l3, l4, l5] (.int (0) :: r) (σ, sz, k, c)) ∧
  (∀ (n : Nat) (l0 l1 l2 l3 l4 l5 : Option Value) (x : Int32)  (σ : zk_S) (sz k c : Nat), zk_run E (zk_VT E) M_L_roomAt (C_L_roomAt E) P PX K (n + 1) 20 [l0, l1, l2, l3, l4, l5] [.int x] (σ, sz, k, c) = (zk_nok (some (.int)) x ∧ P (some (.int x)) σ sz ∧ k ≤ 1 ∧ c ≤ 6)) ∧
  (∀ (n : Nat) (l0 l1 l2 l3 l4 l5 : Option Value) (r : List Value) (w : zk_W zk_S), zk_go E (zk_VT E) M_L_roomAt (C_L_roomAt E) P PX K n 0 [l0, l1, l2, l3, l4, l5] r w = zk_run E (zk_VT E) M_L_roomAt (C_L_roomAt E) P PX K (n + 1) 0 [l0, l1, l2, l3, l4, l5] r w) := ⟨by intros; rfl, by intros; rfl, by intros; rfl, by intros; rfl, by intros; rfl, by intros; rfl, by intros; rfl, by intros; rfl, by intros; rfl, by intros; rfl, by intros; rfl, by intros; rfl, by intros; rfl, by intros; rfl, by intros; rfl, by intros; rfl⟩
set_option maxHeartbeats 4000000 in
theorem vc_L_roomAt (E : zk_E) : zk_VCH E (zk_VT E) M_L_roomAt (C_L_roomAt E) 6 (sp_L_roomAt E) := by
  intro av σ sz P h
  obtain ⟨J, N, Q, O, U⟩ := σ
  unfold sp_L_roomAt at h
  split at h
  case h_2 => exact h.elim
  rename_i a fl x y o
  refine ⟨Nat.le_of_ble_eq_true rfl, fun G hG => ?_⟩
  change G 0 [some (.ref a), some (.int fl), some (.int x), some (.int y), some (.ref o), none] [] ((J, N, Q, O, U), sz, 0, 0)
  try dsimp only at h
  obtain ⟨rfl, rfl, hli, h⟩ := h
  have hms := hli.2.1.1
  unfold R_roomAt at h
  dsimp only at h
  (refine hG 900 _ _ _ _ ?_; simp only [r_L_roomAt, zk_kl_none, zk_kl_int, zk_kl_ref, zk_kl_null, zk_kl_long, zk_kl_rf, zk_isr_ref, zk_isr_null, zk_isr_rf9, zk_c1_int, zk_c1_ref, zk_c1_null, zk_c1_rf, zk_psh_some, zk_psh_none, zk_nok_int, zk_nok_bool0, zk_nok_bool1, zk_nok_b, zk_fok_0, zk_fok_1, zk_fok_2, zk_fok_n, zk_fok_rf, zb_f, zb_p, zb_i, zb_a, zb_s, zk_nth_0, zk_nth_s, zk_fld_o, zk_put_o, zk_rv_eq, zk_ri_eq, zk_is_o, List.mem_cons, List.not_mem_nil, or_false, false_or, or_true, true_or, and_true, true_and, not_false_iff, not_true_eq_false, true_implies, false_implies, imp_self, implies_true, forall_const, zk_lit, zk_uj_ap, zk_un_ap, zk_un_un, zk_uj_uj, Nat.reduceEqDiff, eq_self, zk_bq, Bool.true_or, Bool.false_or, Nat.le_refl, Nat.zero_add, Nat.add_zero, Nat.reduceAdd, Nat.reduceLeDiff, Nat.le_zero_eq, and_self, and_false, false_and, ite_true, ite_false, Nat.zero_le, List.length_cons, List.length_nil, Option.some.injEq, forall_eq', reduceCtorEq, spe_X10_roomAt])
  refine ⟨J, N, hli.2, ?_⟩
  refine ⟨fun hc => ?_, fun hc => ?_⟩
  · intro z2 hz
    simp only [r_L_roomAt, zk_kl_none, zk_kl_int, zk_kl_ref, zk_kl_null, zk_kl_long, zk_kl_rf, zk_isr_ref, zk_isr_null, zk_isr_rf9, zk_c1_int, zk_c1_ref, zk_c1_null, zk_c1_rf, zk_psh_some, zk_psh_none, zk_nok_int, zk_nok_bool0, zk_nok_bool1, zk_nok_b, zk_fok_0, zk_fok_1, zk_fok_2, zk_fok_n, zk_fok_rf, zb_f, zb_p, zb_i, zb_a, zb_s, zk_nth_0, zk_nth_s, zk_fld_o, zk_put_o, zk_rv_eq, zk_ri_eq, zk_is_o, List.mem_cons, List.not_mem_nil, or_false, false_or, or_true, true_or, and_true, true_and, not_false_iff, not_true_eq_false, true_implies, false_implies, imp_self, implies_true, forall_const, zk_lit, zk_uj_ap, zk_un_ap, zk_un_un, zk_uj_uj, Nat.reduceEqDiff, eq_self, zk_bq, Bool.true_or, Bool.false_or, Nat.le_refl, Nat.zero_add, Nat.add_zero, Nat.reduceAdd, Nat.reduceLeDiff, Nat.le_zero_eq, and_self, and_false, false_and, ite_true, ite_false, Nat.zero_le, List.length_cons, List.length_nil, Option.some.injEq, forall_eq', reduceCtorEq, hc_q, hc_s, hc_v, hc_i]
    exact h 1 _ _ (Or.inl ⟨hc, ⟨rfl, LC.zy hli (fun _ _ => rfl) hz⟩⟩)
  · simp only [r_L_roomAt, zk_kl_none, zk_kl_int, zk_kl_ref, zk_kl_null, zk_kl_long, zk_kl_rf, zk_isr_ref, zk_isr_null, zk_isr_rf9, zk_c1_int, zk_c1_ref, zk_c1_null, zk_c1_rf, zk_psh_some, zk_psh_none, zk_nok_int, zk_nok_bool0, zk_nok_bool1, zk_nok_b, zk_fok_0, zk_fok_1, zk_fok_2, zk_fok_n, zk_fok_rf, zb_f, zb_p, zb_i, zb_a, zb_s, zk_nth_0, zk_nth_s, zk_fld_o, zk_put_o, zk_rv_eq, zk_ri_eq, zk_is_o, List.mem_cons, List.not_mem_nil, or_false, false_or, or_true, true_or, and_true, true_and, not_false_iff, not_true_eq_false, true_implies, false_implies, imp_self, implies_true, forall_const, zk_lit, zk_uj_ap, zk_un_ap, zk_un_un, zk_uj_uj, Nat.reduceEqDiff, eq_self, zk_bq, Bool.true_or, Bool.false_or, Nat.le_refl, Nat.zero_add, Nat.add_zero, Nat.reduceAdd, Nat.reduceLeDiff, Nat.le_zero_eq, and_self, and_false, false_and, ite_true, ite_false, Nat.zero_le, List.length_cons, List.length_nil, Option.some.injEq, forall_eq', reduceCtorEq, hc_q, hc_s, hc_v, hc_i]
    exact h 0 _ _ (Or.inr ⟨hc, ⟨⟨rfl, up_L U _⟩, LC.zy hli (fun _ _ => rfl) (Nat.le_refl _)⟩⟩)
def hh_L_roomAt : List (Nat × Nat × Nat × Nat) := [(0, 12, 15, 13)]
theorem HO_L_roomAt : zk_HO RL hh_L_roomAt M_L_roomAt := by
  intro pc X hp h
  have h2 : (match Nat.beq pc 7 with | true => (if X = "java/lang/IllegalArgumentException" then some 15 else none) | false => none : Option Nat) = some hp := h
  clear h
  split at h2
  · rename_i e
    have e := Nat.eq_of_beq_eq_true e
    subst e
    by_cases e0 : X = "java/lang/IllegalArgumentException"
    · subst e0
      rw [if_pos rfl] at h2
      cases h2
      exact ⟨[], ⟨0, 12, 15, 13⟩, [], rfl, fun _ h => absurd h List.not_mem_nil, by decide, by decide, rfl, "java/lang/IllegalArgumentException", zk_wi 394 (by decide +kernel) rfl, zk_tb 405 (by decide +kernel)⟩
    rw [if_neg e0] at h2
    cases h2
  · cases h2
theorem ct_L_roomAt {l : Launch} (hl : l.stackTraces = false) (E : zk_E) : zk_CH l E (zk_VT E) yL_roomAt cL_roomAt 6 (some (.int)) hh_L_roomAt rm_L_roomAt (sp_L_roomAt E) := by
  refine zk_methH (M := M_L_roomAt) (C := C_L_roomAt E) (by decide +kernel) rfl HO_L_roomAt (zk_VT_ok E) MO_L_roomAt TO_L_roomAt (fun _ => rfl) ?_ (vc_L_roomAt E)
  exact fun p e s m args below meth c X pc n mc ms sp2 h => by
    have h2 := zk_lka_mem h
    simp only [List.mem_cons, List.not_mem_nil, or_false, Prod.mk.injEq] at h2
    rcases h2 with ⟨rfl, rfl, rfl, rfl, rfl⟩
    exact zk_coV (idx := 49) X (ct_X10_roomAt hl E) (List.forall_mem_cons.mpr ⟨zk_wi 806 (by decide +kernel) rfl, List.forall_mem_cons.mpr ⟨zk_wi 807 (by decide +kernel) rfl, List.forall_mem_cons.mpr ⟨zk_wi 808 (by decide +kernel) rfl, List.forall_mem_cons.mpr ⟨zk_wi 1 (by decide +kernel) rfl, List.forall_mem_cons.mpr ⟨zk_wi 809 (by decide +kernel) rfl, fun _ h => absurd h List.not_mem_nil⟩⟩⟩⟩⟩) (fun ci h => by
      have h := Nat.eq_of_beq_eq_true h
      subst h
      exact ⟨_, _, rfl⟩) (by decide +kernel) ⟨by decide, by decide, by decide +kernel⟩ ⟨by decide, by decide⟩
def R_areJoined (E : zk_E) (σ : zk_S) (sz : Nat) (x : Int32) (y : Int32) (k : Int32) (σ2 : zk_S) (sz2 : Nat) : Prop := RD σ.1 σ.2.1 x (fun j => RD σ.1 σ.2.1 y (fun q => WO E σ sz σ2 sz2 k (zk_b (a_join σ.1 σ.2.1 x y)).toInt64 σ.1 σ.2.1) (WN E σ sz σ2 sz2 k 1)) (WN E σ sz σ2 sz2 k 1)
def sp_L_areJoined (E : zk_E) : zk_Sp zk_S := fun av σ sz P PX => match av with
  | [.ref a, .int x, .int y, .ref o] => a = zk_ad E 0 ∧ o = zk_ad E 54 ∧ LI E sz σ ∧ ∀ k σ2 sz2, R_areJoined E σ sz x y k σ2 sz2 → P (some (.int k)) σ2 sz2
  | _ => False
theorem spe_L_areJoined (E : zk_E) (a : Nat) (x : Int32) (y : Int32) (o : Nat) (σ : zk_S) (sz : Nat) (P : zk_P zk_S) (PX : zk_X zk_S) : sp_L_areJoined E [.ref a, .int x, .int y, .ref o] σ sz P PX = (a = zk_ad E 0 ∧ o = zk_ad E 54 ∧ LI E sz σ ∧ ∀ k σ2 sz2, R_areJoined E σ sz x y k σ2 sz2 → P (some (.int k)) σ2 sz2) := propext Iff.rfl
def C_L_areJoined (E : zk_E) : zk_Cl zk_S := zk_lka [(5, 3, 2, 12, zk_rv (zk_VT E) (fun ci => Nat.beq ci 9) (sp_X10_areJoined E))]
theorem r_L_areJoined (E : zk_E) (P : zk_P zk_S) (PX : zk_X zk_S) (K : Nat → zk_L → List Value → zk_W zk_S → Prop) : (∀ (n : Nat) (l0 l1 l2 l4 : Option Value) (y3 : Value) (r : List Value) (σ : zk_S) (sz k c : Nat), zk_run E (zk_VT E) M_L_areJoined (C_L_areJoined E) P PX K (n + 1) 0 [l0, l1, l2, some y3, l4] r (σ, sz, k, c) = (zk_isr y3 ∧ zk_run E (zk_VT E) M_L_areJoined (C_L_areJoined E) P PX K n 1 [l0, l1, l2, some y3, l4] (y3 :: r) (σ, sz, k, c))) ∧
  (∀ (n : Nat) (l0 l1 l2 l3 l4 : Option Value)  (r : List Value) (σ : zk_S) (sz k c : Nat), zk_run E (zk_VT E) M_L_areJoined (C_L_areJoined E) P PX K (n + 1) 1 [l0, l1, l2, l3, l4] r (σ, sz, k, c) = zk_run E (zk_VT E) M_L_areJoined (C_L_areJoined E) P PX K n 2 [l0, l1, l2, l3, l4] (.int (0) :: r) (σ, sz, k, c)) ∧
  (∀ (n : Nat) (l1 l2 l3 l4 : Option Value) (y0 : Value) (r : List Value) (σ : zk_S) (sz k c : Nat), zk_run E (zk_VT E) M_L_areJoined (C_L_areJoined E) P PX K (n + 1) 2 [some y0, l1, l2, l3, l4] r (σ, sz, k, c) = (zk_isr y0 ∧ zk_run E (zk_VT E) M_L_areJoined (C_L_areJoined E) P PX K n 3 [some y0, l1, l2, l3, l4] (y0 :: r) (σ, sz, k, c))) ∧
  (∀ (n : Nat) (l0 l2 l3 l4 : Option Value) (y1 : Int32) (r : List Value) (σ : zk_S) (sz k c : Nat), zk_run E (zk_VT E) M_L_areJoined (C_L_areJoined E) P PX K (n + 1) 3 [l0, some (.int y1), l2, l3, l4] r (σ, sz, k, c) = zk_run E (zk_VT E) M_L_areJoined (C_L_areJoined E) P PX K n 4 [l0, some (.int y1), l2, l3, l4] (.int y1 :: r) (σ, sz, k, c)) ∧
  (∀ (n : Nat) (l0 l1 l3 l4 : Option Value) (y2 : Int32) (r : List Value) (σ : zk_S) (sz k c : Nat), zk_run E (zk_VT E) M_L_areJoined (C_L_areJoined E) P PX K (n + 1) 4 [l0, l1, some (.int y2), l3, l4] r (σ, sz, k, c) = zk_run E (zk_VT E) M_L_areJoined (C_L_areJoined E) P PX K n 5 [l0, l1, some (.int y2), l3, l4] (.int y2 :: r) (σ, sz, k, c)) ∧
  (∀ (n : Nat) (l0 l1 l2 l3 l4 : Option Value) (v0 : Value) (v1 : Value) (v2 : Value) (v3 : Value) (v4 : Value)  (σ : zk_S) (sz k c : Nat), zk_run E (zk_VT E) M_L_areJoined (C_L_areJoined E) P PX K (n + 1) 5 [l0, l1, l2, l3, l4] [v0, v1, v2, v3, v4] (σ, sz, k, c) = (k + 2 ≤ 2 ∧ c + 12 ≤ 12 ∧ (zk_rv (zk_VT E) (fun ci => Nat.beq ci 9) (sp_X10_areJoined E)) [v2, v1, v0] σ sz (fun v s2 z2 => zk_run E (zk_VT E) M_L_areJoined (C_L_areJoined E) P PX K n 8 [l0, l1, l2, l3, l4] (zk_psh v [v3, v4]) (s2, z2, k + 2, c + 12)) (fun X s2 z2 => (match (match Nat.beq 5 5 with
  | true => if X = "java/lang/IndexOutOfBoundsException" then some 20 else none
  | false => none : Option Nat) with
    | some hp => ∀ q : Nat, zk_run E (zk_VT E) M_L_areJoined (C_L_areJoined E) P PX K n hp [l0, l1, l2, l3, l4] [.ref q] (s2, z2, k + 2, c + 12)
    | none => PX X s2 z2)))) ∧
  (∀ (n : Nat) (l0 l1 l2 l3 l4 : Option Value) (x : Int32) (r : List Value) (σ : zk_S) (sz k c : Nat), zk_run E (zk_VT E) M_L_areJoined (C_L_areJoined E) P PX K (n + 1) 8 [l0, l1, l2, l3, l4] (.int x :: r) (σ, sz, k, c) = ((x = 0 → zk_run E (zk_VT E) M_L_areJoined (C_L_areJoined E) P PX K n 15 [l0, l1, l2, l3, l4] r (σ, sz, k, c)) ∧ (¬ (x = 0) → zk_run E (zk_VT E) M_L_areJoined (C_L_areJoined E) P PX K n 11 [l0, l1, l2, l3, l4] r (σ, sz, k, c)))) ∧
  (∀ (n : Nat) (l0 l1 l2 l3 l4 : Option Value)  (r : List Value) (σ : zk_S) (sz k c : Nat), zk_run E (zk_VT E) M_L_areJoined (C_L_areJoined E) P PX K (n + 1) 11 [l0, l1, l2, l3, l4] r (σ, sz, k, c) = zk_run E (zk_VT E) M_L_areJoined (C_L_areJoined E) P PX K n 12 [l0, l1, l2, l3, l4] (.long 1 :: r) (σ, sz, k, c)) ∧
  (∀ (n : Nat) (l0 l1 l2 l3 l4 : Option Value)  (r : List Value) (σ : zk_S) (sz k c : Nat), zk_run E (zk_VT E) M_L_areJoined (C_L_areJoined E) P PX K (n + 1) 12 [l0, l1, l2, l3, l4] r (σ, sz, k, c) = zk_run E (zk_VT E) M_L_areJoined (C_L_areJoined E) P PX K n 16 [l0, l1, l2, l3, l4] r (σ, sz, k, c)) ∧
  (∀ (n : Nat) (l0 l1 l2 l3 l4 : Option Value)  (r : List Value) (σ : zk_S) (sz k c : Nat), zk_run E (zk_VT E) M_L_areJoined (C_L_areJoined E) P PX K (n + 1) 15 [l0, l1, l2, l3, l4] r (σ, sz, k, c) = zk_run E (zk_VT E) M_L_areJoined (C_L_areJoined E) P PX K n 16 [l0, l1, l2, l3, l4] (.long 0 :: r) (σ, sz, k, c)) ∧
  (∀ (n : Nat) (l0 l1 l2 l3 l4 : Option Value) (a : Nat) (i : Int32) (x : Int64) (r : List Value) (σ : zk_S) (sz k c : Nat), zk_run E (zk_VT E) M_L_areJoined (C_L_areJoined E) P PX K (n + 1) 16 [l0, l1, l2, l3, l4] (.long x :: .int i :: .ref a :: r) (σ, sz, k, c) = zk_lst (zk_view E σ a) (zk_ar E 2) i x (fun e => zk_wrok E σ a e ∧ zk_run E (zk_VT E) M_L_areJoined (C_L_areJoined E) P PX K n 17 [l0, l1, l2, l3, l4] r (zk_wr E σ a e, sz, k, c))) ∧
  (∀ (n : Nat) (l0 l1 l2 l3 l4 : Option Value)  (r : List Value) (σ : zk_S) (sz k c : Nat), zk_run E (zk_VT E) M_L_areJoined (C_L_areJoined E) P PX K (n + 1) 17 [l0, l1, l2, l3, l4] r (σ, sz, k, c) = zk_run E (zk_VT E) M_L_areJoined (C_L_areJoined E) P PX K n 24 [l0, l1, l2, l3, l4] r (σ, sz, k, c)) ∧
  (∀ (n : Nat) (l0 l1 l2 l3 l4 : Option Value) (x : Value) (r : List Value) (σ : zk_S) (sz k c : Nat), zk_run E (zk_VT E) M_L_areJoined (C_L_areJoined E) P PX K (n + 1) 20 [l0, l1, l2, l3, l4] (x :: r) (σ, sz, k, c) = (zk_isr x ∧ zk_run E (zk_VT E) M_L_areJoined (C_L_areJoined E) P PX K n 22 [l0, l1, l2, zk_kl l3, some (x)] r (σ, sz, k, c))) ∧
  (∀ (n : Nat) (l0 l1 l2 l3 l4 : Option Value)  (r : List Value) (σ : zk_S) (sz k c : Nat), zk_run E (zk_VT E) M_L_areJoined (C_L_areJoined E) P PX K (n + 1) 22 [l0, l1, l2, l3, l4] r (σ, sz, k, c) = zk_run E (zk_VT E) M_L_areJoined (C_L_areJoined E) P PX K n 23 [l0, l1, l2, l3, l4] (.int (1) :: r) (σ, sz, k, c)) ∧
  (∀ (n : Nat) (l0 l1 l2 l3 l4 : Option Value) (x : Int32)  (σ : zk_S) (sz k c : Nat), zk_run E (zk_VT E) M_L_areJoined (C_L_areJoined E) P PX K (n + 1) 23 [l0, l1, l2, l3, l4] [.int x] (σ, sz, k, c) = (zk_nok (some (.int)) x ∧ P (some (.int x)) σ sz ∧ k ≤ 2 ∧ c ≤ 12)) ∧
  (∀ (n : Nat) (l0 l1 l2 l3 l4 : Option Value)  (r : List Value) (σ : zk_S) (sz k c : Nat), zk_run E (zk_VT E) M_L_areJoined (C_L_areJoined E) P PX K (n + 1) 24 [l0, l1, l2, l3, l4] r (σ, sz, k, c) = zk_run E (zk_VT E) M_L_areJoined (C_L_areJoined E) P PX K n 25 [l0, l1, l2, l3, l4] (.int (0) :: r) (σ, sz, k, c)) ∧
  (∀ (n : Nat) (l0 l1 l2 l3 l4 : Option Value) (x : Int32)  (σ : zk_S) (sz k c : Nat), zk_run E (zk_VT E) M_L_areJoined (C_L_areJoined E) P PX K (n + 1) 25 [l0, l1, l2, l3, l4] [.int x] (σ, sz, k, c) = (zk_nok (some (.int)) x ∧ P (some (.int x)) σ sz ∧ k ≤ 2 ∧ c ≤ 12)) ∧
  (∀ (n : Nat) (l0 l1 l2 l3 l4 : Option Value) (r : List Value) (w : zk_W zk_S), zk_go E (zk_VT E) M_L_areJoined (C_L_areJoined E) P PX K n 0 [l0, l1, l2, l3, l4] r w = zk_run E (zk_VT E) M_L_areJoined (C_L_areJoined E) P PX K (n + 1) 0 [l0, l1, l2, l3, l4] r w) := ⟨by intros; rfl, by intros; rfl, by intros; rfl, by intros; rfl, by intros; rfl, by intros; rfl, by intros; rfl, by intros; rfl, by intros; rfl, by intros; rfl, by intros; rfl, by intros; rfl, by intros; rfl, by intros; rfl, by intros; rfl, by intros; rfl, by intros; rfl, by intros; rfl⟩
set_option maxHeartbeats 4000000 in
theorem vc_L_areJoined (E : zk_E) : zk_VCH E (zk_VT E) M_L_areJoined (C_L_areJoined E) 5 (sp_L_areJoined E) := by
  intro av σ sz P h
  obtain ⟨J, N, Q, O, U⟩ := σ
  unfold sp_L_areJoined at h
  split at h
  case h_2 => exact h.elim
  rename_i a x y o
  refine ⟨Nat.le_of_ble_eq_true rfl, fun G hG => ?_⟩
  change G 0 [some (.ref a), some (.int x), some (.int y), some (.ref o), none] [] ((J, N, Q, O, U), sz, 0, 0)
  try dsimp only at h
  obtain ⟨rfl, rfl, hli, h⟩ := h
  have hms := hli.2.1.1
  unfold R_areJoined at h
  dsimp only at h
  (refine hG 900 _ _ _ _ ?_; simp only [r_L_areJoined, zk_kl_none, zk_kl_int, zk_kl_ref, zk_kl_null, zk_kl_long, zk_kl_rf, zk_isr_ref, zk_isr_null, zk_isr_rf9, zk_c1_int, zk_c1_ref, zk_c1_null, zk_c1_rf, zk_psh_some, zk_psh_none, zk_nok_int, zk_nok_bool0, zk_nok_bool1, zk_nok_b, zk_fok_0, zk_fok_1, zk_fok_2, zk_fok_n, zk_fok_rf, zb_f, zb_p, zb_i, zb_a, zb_s, zk_nth_0, zk_nth_s, zk_fld_o, zk_put_o, zk_rv_eq, zk_ri_eq, zk_is_o, List.mem_cons, List.not_mem_nil, or_false, false_or, or_true, true_or, and_true, true_and, not_false_iff, not_true_eq_false, true_implies, false_implies, imp_self, implies_true, forall_const, zk_lit, zk_uj_ap, zk_un_ap, zk_un_un, zk_uj_uj, Nat.reduceEqDiff, eq_self, zk_bq, Bool.true_or, Bool.false_or, Nat.le_refl, Nat.zero_add, Nat.add_zero, Nat.reduceAdd, Nat.reduceLeDiff, Nat.le_zero_eq, and_self, and_false, false_and, ite_true, ite_false, Nat.zero_le, List.length_cons, List.length_nil, Option.some.injEq, forall_eq', reduceCtorEq, spe_X10_areJoined])
  refine ⟨J, N, hli.2, ?_⟩
  refine RD.mk hms (fun j hj ej => ?_) (fun ej => ?_)
  · refine RD.mk hms (fun q hq eq => ?_) (fun eq => ?_)
    · rcases (b_01 (a_join J N x y)) with hb | hb
      · simp only [r_L_areJoined, zk_kl_none, zk_kl_int, zk_kl_ref, zk_kl_null, zk_kl_long, zk_kl_rf, zk_isr_ref, zk_isr_null, zk_isr_rf9, zk_c1_int, zk_c1_ref, zk_c1_null, zk_c1_rf, zk_psh_some, zk_psh_none, zk_nok_int, zk_nok_bool0, zk_nok_bool1, zk_nok_b, zk_fok_0, zk_fok_1, zk_fok_2, zk_fok_n, zk_fok_rf, zb_f, zb_p, zb_i, zb_a, zb_s, zk_nth_0, zk_nth_s, zk_fld_o, zk_put_o, zk_rv_eq, zk_ri_eq, zk_is_o, List.mem_cons, List.not_mem_nil, or_false, false_or, or_true, true_or, and_true, true_and, not_false_iff, not_true_eq_false, true_implies, false_implies, imp_self, implies_true, forall_const, zk_lit, zk_uj_ap, zk_un_ap, zk_un_un, zk_uj_uj, Nat.reduceEqDiff, eq_self, zk_bq, Bool.true_or, Bool.false_or, Nat.le_refl, Nat.zero_add, Nat.add_zero, Nat.reduceAdd, Nat.reduceLeDiff, Nat.le_zero_eq, and_self, and_false, false_and, ite_true, ite_false, Nat.zero_le, List.length_cons, List.length_nil, Option.some.injEq, forall_eq', reduceCtorEq, hc_q, hc_s, hc_v, hc_i, hb, hc_10, zk_bt, zk_bf]
        exact h 0 _ _ (Or.inl ⟨j, hj, ej, Or.inl ⟨q, hq, eq, ⟨⟨rfl, (up_L U 0).trans (hi64_0.symm.trans (congrArg Int32.toInt64 hb).symm)⟩, LC.zy hli (fun _ _ => rfl) (Nat.le_refl _)⟩⟩⟩)
      · simp only [r_L_areJoined, zk_kl_none, zk_kl_int, zk_kl_ref, zk_kl_null, zk_kl_long, zk_kl_rf, zk_isr_ref, zk_isr_null, zk_isr_rf9, zk_c1_int, zk_c1_ref, zk_c1_null, zk_c1_rf, zk_psh_some, zk_psh_none, zk_nok_int, zk_nok_bool0, zk_nok_bool1, zk_nok_b, zk_fok_0, zk_fok_1, zk_fok_2, zk_fok_n, zk_fok_rf, zb_f, zb_p, zb_i, zb_a, zb_s, zk_nth_0, zk_nth_s, zk_fld_o, zk_put_o, zk_rv_eq, zk_ri_eq, zk_is_o, List.mem_cons, List.not_mem_nil, or_false, false_or, or_true, true_or, and_true, true_and, not_false_iff, not_true_eq_false, true_implies, false_implies, imp_self, implies_true, forall_const, zk_lit, zk_uj_ap, zk_un_ap, zk_un_un, zk_uj_uj, Nat.reduceEqDiff, eq_self, zk_bq, Bool.true_or, Bool.false_or, Nat.le_refl, Nat.zero_add, Nat.add_zero, Nat.reduceAdd, Nat.reduceLeDiff, Nat.le_zero_eq, and_self, and_false, false_and, ite_true, ite_false, Nat.zero_le, List.length_cons, List.length_nil, Option.some.injEq, forall_eq', reduceCtorEq, hc_q, hc_s, hc_v, hc_i, hb, hc_10, zk_bt, zk_bf]
        exact h 0 _ _ (Or.inl ⟨j, hj, ej, Or.inl ⟨q, hq, eq, ⟨⟨rfl, (up_L U 1).trans (hi64_1.symm.trans (congrArg Int32.toInt64 hb).symm)⟩, LC.zy hli (fun _ _ => rfl) (Nat.le_refl _)⟩⟩⟩)
    · intro z2 hz
      simp only [r_L_areJoined, zk_kl_none, zk_kl_int, zk_kl_ref, zk_kl_null, zk_kl_long, zk_kl_rf, zk_isr_ref, zk_isr_null, zk_isr_rf9, zk_c1_int, zk_c1_ref, zk_c1_null, zk_c1_rf, zk_psh_some, zk_psh_none, zk_nok_int, zk_nok_bool0, zk_nok_bool1, zk_nok_b, zk_fok_0, zk_fok_1, zk_fok_2, zk_fok_n, zk_fok_rf, zb_f, zb_p, zb_i, zb_a, zb_s, zk_nth_0, zk_nth_s, zk_fld_o, zk_put_o, zk_rv_eq, zk_ri_eq, zk_is_o, List.mem_cons, List.not_mem_nil, or_false, false_or, or_true, true_or, and_true, true_and, not_false_iff, not_true_eq_false, true_implies, false_implies, imp_self, implies_true, forall_const, zk_lit, zk_uj_ap, zk_un_ap, zk_un_un, zk_uj_uj, Nat.reduceEqDiff, eq_self, zk_bq, Bool.true_or, Bool.false_or, Nat.le_refl, Nat.zero_add, Nat.add_zero, Nat.reduceAdd, Nat.reduceLeDiff, Nat.le_zero_eq, and_self, and_false, false_and, ite_true, ite_false, Nat.zero_le, List.length_cons, List.length_nil, Option.some.injEq, forall_eq', reduceCtorEq, hc_q, hc_s, hc_v, hc_i]
      exact h 1 _ _ (Or.inl ⟨j, hj, ej, Or.inr ⟨eq, ⟨rfl, LC.zy hli (fun _ _ => rfl) hz⟩⟩⟩)
  · intro z2 hz
    simp only [r_L_areJoined, zk_kl_none, zk_kl_int, zk_kl_ref, zk_kl_null, zk_kl_long, zk_kl_rf, zk_isr_ref, zk_isr_null, zk_isr_rf9, zk_c1_int, zk_c1_ref, zk_c1_null, zk_c1_rf, zk_psh_some, zk_psh_none, zk_nok_int, zk_nok_bool0, zk_nok_bool1, zk_nok_b, zk_fok_0, zk_fok_1, zk_fok_2, zk_fok_n, zk_fok_rf, zb_f, zb_p, zb_i, zb_a, zb_s, zk_nth_0, zk_nth_s, zk_fld_o, zk_put_o, zk_rv_eq, zk_ri_eq, zk_is_o, List.mem_cons, List.not_mem_nil, or_false, false_or, or_true, true_or, and_true, true_and, not_false_iff, not_true_eq_false, true_implies, false_implies, imp_self, implies_true, forall_const, zk_lit, zk_uj_ap, zk_un_ap, zk_un_un, zk_uj_uj, Nat.reduceEqDiff, eq_self, zk_bq, Bool.true_or, Bool.false_or, Nat.le_refl, Nat.zero_add, Nat.add_zero, Nat.reduceAdd, Nat.reduceLeDiff, Nat.le_zero_eq, and_self, and_false, false_and, ite_true, ite_false, Nat.zero_le, List.length_cons, List.length_nil, Option.some.injEq, forall_eq', reduceCtorEq, hc_q, hc_s, hc_v, hc_i]
    exact h 1 _ _ (Or.inr ⟨ej, ⟨rfl, LC.zy hli (fun _ _ => rfl) hz⟩⟩)
def hh_L_areJoined : List (Nat × Nat × Nat × Nat) := [(0, 17, 20, 21)]
theorem HO_L_areJoined : zk_HO RL hh_L_areJoined M_L_areJoined := by
  intro pc X hp h
  have h2 : (match Nat.beq pc 5 with | true => (if X = "java/lang/IndexOutOfBoundsException" then some 20 else none) | false => none : Option Nat) = some hp := h
  clear h
  split at h2
  · rename_i e
    have e := Nat.eq_of_beq_eq_true e
    subst e
    by_cases e0 : X = "java/lang/IndexOutOfBoundsException"
    · subst e0
      rw [if_pos rfl] at h2
      cases h2
      exact ⟨[], ⟨0, 17, 20, 21⟩, [], rfl, fun _ h => absurd h List.not_mem_nil, by decide, by decide, rfl, "java/lang/IndexOutOfBoundsException", zk_wi 545 (by decide +kernel) rfl, zk_tb 556 (by decide +kernel)⟩
    rw [if_neg e0] at h2
    cases h2
  · cases h2
theorem ct_L_areJoined {l : Launch} (hl : l.stackTraces = false) (E : zk_E) : zk_CH l E (zk_VT E) yL_areJoined cL_areJoined 5 (some (.int)) hh_L_areJoined rm_L_areJoined (sp_L_areJoined E) := by
  refine zk_methH (M := M_L_areJoined) (C := C_L_areJoined E) (by decide +kernel) rfl HO_L_areJoined (zk_VT_ok E) MO_L_areJoined TO_L_areJoined (fun _ => rfl) ?_ (vc_L_areJoined E)
  exact fun p e s m args below meth c X pc n mc ms sp2 h => by
    have h2 := zk_lka_mem h
    simp only [List.mem_cons, List.not_mem_nil, or_false, Prod.mk.injEq] at h2
    rcases h2 with ⟨rfl, rfl, rfl, rfl, rfl⟩
    exact zk_coV (idx := 53) X (ct_X10_areJoined hl E) (List.forall_mem_cons.mpr ⟨zk_wi 818 (by decide +kernel) rfl, List.forall_mem_cons.mpr ⟨zk_wi 819 (by decide +kernel) rfl, List.forall_mem_cons.mpr ⟨zk_wi 820 (by decide +kernel) rfl, List.forall_mem_cons.mpr ⟨zk_wi 1 (by decide +kernel) rfl, List.forall_mem_cons.mpr ⟨zk_wi 821 (by decide +kernel) rfl, fun _ h => absurd h List.not_mem_nil⟩⟩⟩⟩⟩) (fun ci h => by
      have h := Nat.eq_of_beq_eq_true h
      subst h
      exact ⟨_, _, rfl⟩) (by decide +kernel) ⟨by decide, by decide, by decide +kernel⟩ ⟨by decide, by decide⟩
def R_isLost (E : zk_E) (σ : zk_S) (sz : Nat) (r : Int32) (k : Int32) (σ2 : zk_S) (sz2 : Nat) : Prop := RD σ.1 σ.2.1 r (fun j => WO E σ sz σ2 sz2 k (zk_b (a_isLost σ.1 σ.2.1 j)).toInt64 σ.1 σ.2.1) (WN E σ sz σ2 sz2 k 1)
def sp_L_isLost (E : zk_E) : zk_Sp zk_S := fun av σ sz P PX => match av with
  | [.ref a, .int r, .ref o] => a = zk_ad E 0 ∧ o = zk_ad E 54 ∧ LI E sz σ ∧ ∀ k σ2 sz2, R_isLost E σ sz r k σ2 sz2 → P (some (.int k)) σ2 sz2
  | _ => False
theorem spe_L_isLost (E : zk_E) (a : Nat) (r : Int32) (o : Nat) (σ : zk_S) (sz : Nat) (P : zk_P zk_S) (PX : zk_X zk_S) : sp_L_isLost E [.ref a, .int r, .ref o] σ sz P PX = (a = zk_ad E 0 ∧ o = zk_ad E 54 ∧ LI E sz σ ∧ ∀ k σ2 sz2, R_isLost E σ sz r k σ2 sz2 → P (some (.int k)) σ2 sz2) := propext Iff.rfl
def C_L_isLost (E : zk_E) : zk_Cl zk_S := zk_lka [(4, 2, 1, 6, zk_rv (zk_VT E) (fun ci => Nat.beq ci 9) (sp_X10_isLost E))]
theorem r_L_isLost (E : zk_E) (P : zk_P zk_S) (PX : zk_X zk_S) (K : Nat → zk_L → List Value → zk_W zk_S → Prop) : (∀ (n : Nat) (l0 l1 l3 : Option Value) (y2 : Value) (r : List Value) (σ : zk_S) (sz k c : Nat), zk_run E (zk_VT E) M_L_isLost (C_L_isLost E) P PX K (n + 1) 0 [l0, l1, some y2, l3] r (σ, sz, k, c) = (zk_isr y2 ∧ zk_run E (zk_VT E) M_L_isLost (C_L_isLost E) P PX K n 1 [l0, l1, some y2, l3] (y2 :: r) (σ, sz, k, c))) ∧
  (∀ (n : Nat) (l0 l1 l2 l3 : Option Value)  (r : List Value) (σ : zk_S) (sz k c : Nat), zk_run E (zk_VT E) M_L_isLost (C_L_isLost E) P PX K (n + 1) 1 [l0, l1, l2, l3] r (σ, sz, k, c) = zk_run E (zk_VT E) M_L_isLost (C_L_isLost E) P PX K n 2 [l0, l1, l2, l3] (.int (0) :: r) (σ, sz, k, c)) ∧
  (∀ (n : Nat) (l1 l2 l3 : Option Value) (y0 : Value) (r : List Value) (σ : zk_S) (sz k c : Nat), zk_run E (zk_VT E) M_L_isLost (C_L_isLost E) P PX K (n + 1) 2 [some y0, l1, l2, l3] r (σ, sz, k, c) = (zk_isr y0 ∧ zk_run E (zk_VT E) M_L_isLost (C_L_isLost E) P PX K n 3 [some y0, l1, l2, l3] (y0 :: r) (σ, sz, k, c))) ∧
  (∀ (n : Nat) (l0 l2 l3 : Option Value) (y1 : Int32) (r : List Value) (σ : zk_S) (sz k c : Nat), zk_run E (zk_VT E) M_L_isLost (C_L_isLost E) P PX K (n + 1) 3 [l0, some (.int y1), l2, l3] r (σ, sz, k, c) = zk_run E (zk_VT E) M_L_isLost (C_L_isLost E) P PX K n 4 [l0, some (.int y1), l2, l3] (.int y1 :: r) (σ, sz, k, c)) ∧
  (∀ (n : Nat) (l0 l1 l2 l3 : Option Value) (v0 : Value) (v1 : Value) (v2 : Value) (v3 : Value)  (σ : zk_S) (sz k c : Nat), zk_run E (zk_VT E) M_L_isLost (C_L_isLost E) P PX K (n + 1) 4 [l0, l1, l2, l3] [v0, v1, v2, v3] (σ, sz, k, c) = (k + 1 ≤ 1 ∧ c + 6 ≤ 6 ∧ (zk_rv (zk_VT E) (fun ci => Nat.beq ci 9) (sp_X10_isLost E)) [v1, v0] σ sz (fun v s2 z2 => zk_run E (zk_VT E) M_L_isLost (C_L_isLost E) P PX K n 7 [l0, l1, l2, l3] (zk_psh v [v2, v3]) (s2, z2, k + 1, c + 6)) (fun X s2 z2 => (match (match Nat.beq 4 4 with
  | true => if X = "java/lang/IndexOutOfBoundsException" then some 19 else none
  | false => none : Option Nat) with
    | some hp => ∀ q : Nat, zk_run E (zk_VT E) M_L_isLost (C_L_isLost E) P PX K n hp [l0, l1, l2, l3] [.ref q] (s2, z2, k + 1, c + 6)
    | none => PX X s2 z2)))) ∧
  (∀ (n : Nat) (l0 l1 l2 l3 : Option Value) (x : Int32) (r : List Value) (σ : zk_S) (sz k c : Nat), zk_run E (zk_VT E) M_L_isLost (C_L_isLost E) P PX K (n + 1) 7 [l0, l1, l2, l3] (.int x :: r) (σ, sz, k, c) = ((x = 0 → zk_run E (zk_VT E) M_L_isLost (C_L_isLost E) P PX K n 14 [l0, l1, l2, l3] r (σ, sz, k, c)) ∧ (¬ (x = 0) → zk_run E (zk_VT E) M_L_isLost (C_L_isLost E) P PX K n 10 [l0, l1, l2, l3] r (σ, sz, k, c)))) ∧
  (∀ (n : Nat) (l0 l1 l2 l3 : Option Value)  (r : List Value) (σ : zk_S) (sz k c : Nat), zk_run E (zk_VT E) M_L_isLost (C_L_isLost E) P PX K (n + 1) 10 [l0, l1, l2, l3] r (σ, sz, k, c) = zk_run E (zk_VT E) M_L_isLost (C_L_isLost E) P PX K n 11 [l0, l1, l2, l3] (.long 1 :: r) (σ, sz, k, c)) ∧
  (∀ (n : Nat) (l0 l1 l2 l3 : Option Value)  (r : List Value) (σ : zk_S) (sz k c : Nat), zk_run E (zk_VT E) M_L_isLost (C_L_isLost E) P PX K (n + 1) 11 [l0, l1, l2, l3] r (σ, sz, k, c) = zk_run E (zk_VT E) M_L_isLost (C_L_isLost E) P PX K n 15 [l0, l1, l2, l3] r (σ, sz, k, c)) ∧
  (∀ (n : Nat) (l0 l1 l2 l3 : Option Value)  (r : List Value) (σ : zk_S) (sz k c : Nat), zk_run E (zk_VT E) M_L_isLost (C_L_isLost E) P PX K (n + 1) 14 [l0, l1, l2, l3] r (σ, sz, k, c) = zk_run E (zk_VT E) M_L_isLost (C_L_isLost E) P PX K n 15 [l0, l1, l2, l3] (.long 0 :: r) (σ, sz, k, c)) ∧
  (∀ (n : Nat) (l0 l1 l2 l3 : Option Value) (a : Nat) (i : Int32) (x : Int64) (r : List Value) (σ : zk_S) (sz k c : Nat), zk_run E (zk_VT E) M_L_isLost (C_L_isLost E) P PX K (n + 1) 15 [l0, l1, l2, l3] (.long x :: .int i :: .ref a :: r) (σ, sz, k, c) = zk_lst (zk_view E σ a) (zk_ar E 2) i x (fun e => zk_wrok E σ a e ∧ zk_run E (zk_VT E) M_L_isLost (C_L_isLost E) P PX K n 16 [l0, l1, l2, l3] r (zk_wr E σ a e, sz, k, c))) ∧
  (∀ (n : Nat) (l0 l1 l2 l3 : Option Value)  (r : List Value) (σ : zk_S) (sz k c : Nat), zk_run E (zk_VT E) M_L_isLost (C_L_isLost E) P PX K (n + 1) 16 [l0, l1, l2, l3] r (σ, sz, k, c) = zk_run E (zk_VT E) M_L_isLost (C_L_isLost E) P PX K n 22 [l0, l1, l2, l3] r (σ, sz, k, c)) ∧
  (∀ (n : Nat) (l0 l1 l2 l3 : Option Value) (x : Value) (r : List Value) (σ : zk_S) (sz k c : Nat), zk_run E (zk_VT E) M_L_isLost (C_L_isLost E) P PX K (n + 1) 19 [l0, l1, l2, l3] (x :: r) (σ, sz, k, c) = (zk_isr x ∧ zk_run E (zk_VT E) M_L_isLost (C_L_isLost E) P PX K n 20 [l0, l1, zk_kl l2, some (x)] r (σ, sz, k, c))) ∧
  (∀ (n : Nat) (l0 l1 l2 l3 : Option Value)  (r : List Value) (σ : zk_S) (sz k c : Nat), zk_run E (zk_VT E) M_L_isLost (C_L_isLost E) P PX K (n + 1) 20 [l0, l1, l2, l3] r (σ, sz, k, c) = zk_run E (zk_VT E) M_L_isLost (C_L_isLost E) P PX K n 21 [l0, l1, l2, l3] (.int (1) :: r) (σ, sz, k, c)) ∧
  (∀ (n : Nat) (l0 l1 l2 l3 : Option Value) (x : Int32)  (σ : zk_S) (sz k c : Nat), zk_run E (zk_VT E) M_L_isLost (C_L_isLost E) P PX K (n + 1) 21 [l0, l1, l2, l3] [.int x] (σ, sz, k, c) = (zk_nok (some (.int)) x ∧ P (some (.int x)) σ sz ∧ k ≤ 1 ∧ c ≤ 6)) ∧
  (∀ (n : Nat) (l0 l1 l2 l3 : Option Value)  (r : List Value) (σ : zk_S) (sz k c : Nat), zk_run E (zk_VT E) M_L_isLost (C_L_isLost E) P PX K (n + 1) 22 [l0, l1, l2, l3] r (σ, sz, k, c) = zk_run E (zk_VT E) M_L_isLost (C_L_isLost E) P PX K n 23 [l0, l1, l2, l3] (.int (0) :: r) (σ, sz, k, c)) ∧
  (∀ (n : Nat) (l0 l1 l2 l3 : Option Value) (x : Int32)  (σ : zk_S) (sz k c : Nat), zk_run E (zk_VT E) M_L_isLost (C_L_isLost E) P PX K (n + 1) 23 [l0, l1, l2, l3] [.int x] (σ, sz, k, c) = (zk_nok (some (.int)) x ∧ P (some (.int x)) σ sz ∧ k ≤ 1 ∧ c ≤ 6)) ∧
  (∀ (n : Nat) (l0 l1 l2 l3 : Option Value) (r : List Value) (w : zk_W zk_S), zk_go E (zk_VT E) M_L_isLost (C_L_isLost E) P PX K n 0 [l0, l1, l2, l3] r w = zk_run E (zk_VT E) M_L_isLost (C_L_isLost E) P PX K (n + 1) 0 [l0, l1, l2, l3] r w) := ⟨by intros; rfl, by intros; rfl, by intros; rfl, by intros; rfl, by intros; rfl, by intros; rfl, by intros; rfl, by intros; rfl, by intros; rfl, by intros; rfl, by intros; rfl, by intros; rfl, by intros; rfl, by intros; rfl, by intros; rfl, by intros; rfl, by intros; rfl⟩
set_option maxHeartbeats 4000000 in
theorem vc_L_isLost (E : zk_E) : zk_VCH E (zk_VT E) M_L_isLost (C_L_isLost E) 4 (sp_L_isLost E) := by
  intro av σ sz P h
  obtain ⟨J, N, Q, O, U⟩ := σ
  unfold sp_L_isLost at h
  split at h
  case h_2 => exact h.elim
  rename_i a r o
  refine ⟨Nat.le_of_ble_eq_true rfl, fun G hG => ?_⟩
  change G 0 [some (.ref a), some (.int r), some (.ref o), none] [] ((J, N, Q, O, U), sz, 0, 0)
  try dsimp only at h
  obtain ⟨rfl, rfl, hli, h⟩ := h
  have hms := hli.2.1.1
  unfold R_isLost at h
  dsimp only at h
  (refine hG 900 _ _ _ _ ?_; simp only [r_L_isLost, zk_kl_none, zk_kl_int, zk_kl_ref, zk_kl_null, zk_kl_long, zk_kl_rf, zk_isr_ref, zk_isr_null, zk_isr_rf9, zk_c1_int, zk_c1_ref, zk_c1_null, zk_c1_rf, zk_psh_some, zk_psh_none, zk_nok_int, zk_nok_bool0, zk_nok_bool1, zk_nok_b, zk_fok_0, zk_fok_1, zk_fok_2, zk_fok_n, zk_fok_rf, zb_f, zb_p, zb_i, zb_a, zb_s, zk_nth_0, zk_nth_s, zk_fld_o, zk_put_o, zk_rv_eq, zk_ri_eq, zk_is_o, List.mem_cons, List.not_mem_nil, or_false, false_or, or_true, true_or, and_true, true_and, not_false_iff, not_true_eq_false, true_implies, false_implies, imp_self, implies_true, forall_const, zk_lit, zk_uj_ap, zk_un_ap, zk_un_un, zk_uj_uj, Nat.reduceEqDiff, eq_self, zk_bq, Bool.true_or, Bool.false_or, Nat.le_refl, Nat.zero_add, Nat.add_zero, Nat.reduceAdd, Nat.reduceLeDiff, Nat.le_zero_eq, and_self, and_false, false_and, ite_true, ite_false, Nat.zero_le, List.length_cons, List.length_nil, Option.some.injEq, forall_eq', reduceCtorEq, spe_X10_isLost])
  refine ⟨J, N, hli.2, ?_⟩
  refine RD.mk hms (fun j hj ej => ?_) (fun ej => ?_)
  · intro J2 N2 hke hcf
    rcases (b_01 (a_isLost J N j)) with hb | hb
    · simp only [r_L_isLost, zk_kl_none, zk_kl_int, zk_kl_ref, zk_kl_null, zk_kl_long, zk_kl_rf, zk_isr_ref, zk_isr_null, zk_isr_rf9, zk_c1_int, zk_c1_ref, zk_c1_null, zk_c1_rf, zk_psh_some, zk_psh_none, zk_nok_int, zk_nok_bool0, zk_nok_bool1, zk_nok_b, zk_fok_0, zk_fok_1, zk_fok_2, zk_fok_n, zk_fok_rf, zb_f, zb_p, zb_i, zb_a, zb_s, zk_nth_0, zk_nth_s, zk_fld_o, zk_put_o, zk_rv_eq, zk_ri_eq, zk_is_o, List.mem_cons, List.not_mem_nil, or_false, false_or, or_true, true_or, and_true, true_and, not_false_iff, not_true_eq_false, true_implies, false_implies, imp_self, implies_true, forall_const, zk_lit, zk_uj_ap, zk_un_ap, zk_un_un, zk_uj_uj, Nat.reduceEqDiff, eq_self, zk_bq, Bool.true_or, Bool.false_or, Nat.le_refl, Nat.zero_add, Nat.add_zero, Nat.reduceAdd, Nat.reduceLeDiff, Nat.le_zero_eq, and_self, and_false, false_and, ite_true, ite_false, Nat.zero_le, List.length_cons, List.length_nil, Option.some.injEq, forall_eq', reduceCtorEq, hc_q, hc_s, hc_v, hc_i, hb, hc_10, zk_bt, zk_bf]
      exact h 0 _ _ (Or.inl ⟨j, hj, ej, ⟨⟨rfl, (up_L U 0).trans (hi64_0.symm.trans (congrArg Int32.toInt64 hb).symm)⟩, LC.ke hli hke hcf (Nat.le_refl _)⟩⟩)
    · simp only [r_L_isLost, zk_kl_none, zk_kl_int, zk_kl_ref, zk_kl_null, zk_kl_long, zk_kl_rf, zk_isr_ref, zk_isr_null, zk_isr_rf9, zk_c1_int, zk_c1_ref, zk_c1_null, zk_c1_rf, zk_psh_some, zk_psh_none, zk_nok_int, zk_nok_bool0, zk_nok_bool1, zk_nok_b, zk_fok_0, zk_fok_1, zk_fok_2, zk_fok_n, zk_fok_rf, zb_f, zb_p, zb_i, zb_a, zb_s, zk_nth_0, zk_nth_s, zk_fld_o, zk_put_o, zk_rv_eq, zk_ri_eq, zk_is_o, List.mem_cons, List.not_mem_nil, or_false, false_or, or_true, true_or, and_true, true_and, not_false_iff, not_true_eq_false, true_implies, false_implies, imp_self, implies_true, forall_const, zk_lit, zk_uj_ap, zk_un_ap, zk_un_un, zk_uj_uj, Nat.reduceEqDiff, eq_self, zk_bq, Bool.true_or, Bool.false_or, Nat.le_refl, Nat.zero_add, Nat.add_zero, Nat.reduceAdd, Nat.reduceLeDiff, Nat.le_zero_eq, and_self, and_false, false_and, ite_true, ite_false, Nat.zero_le, List.length_cons, List.length_nil, Option.some.injEq, forall_eq', reduceCtorEq, hc_q, hc_s, hc_v, hc_i, hb, hc_10, zk_bt, zk_bf]
      exact h 0 _ _ (Or.inl ⟨j, hj, ej, ⟨⟨rfl, (up_L U 1).trans (hi64_1.symm.trans (congrArg Int32.toInt64 hb).symm)⟩, LC.ke hli hke hcf (Nat.le_refl _)⟩⟩)
  · intro J2 N2 z2 hke hcf hz
    simp only [r_L_isLost, zk_kl_none, zk_kl_int, zk_kl_ref, zk_kl_null, zk_kl_long, zk_kl_rf, zk_isr_ref, zk_isr_null, zk_isr_rf9, zk_c1_int, zk_c1_ref, zk_c1_null, zk_c1_rf, zk_psh_some, zk_psh_none, zk_nok_int, zk_nok_bool0, zk_nok_bool1, zk_nok_b, zk_fok_0, zk_fok_1, zk_fok_2, zk_fok_n, zk_fok_rf, zb_f, zb_p, zb_i, zb_a, zb_s, zk_nth_0, zk_nth_s, zk_fld_o, zk_put_o, zk_rv_eq, zk_ri_eq, zk_is_o, List.mem_cons, List.not_mem_nil, or_false, false_or, or_true, true_or, and_true, true_and, not_false_iff, not_true_eq_false, true_implies, false_implies, imp_self, implies_true, forall_const, zk_lit, zk_uj_ap, zk_un_ap, zk_un_un, zk_uj_uj, Nat.reduceEqDiff, eq_self, zk_bq, Bool.true_or, Bool.false_or, Nat.le_refl, Nat.zero_add, Nat.add_zero, Nat.reduceAdd, Nat.reduceLeDiff, Nat.le_zero_eq, and_self, and_false, false_and, ite_true, ite_false, Nat.zero_le, List.length_cons, List.length_nil, Option.some.injEq, forall_eq', reduceCtorEq, hc_q, hc_s, hc_v, hc_i]
    exact h 1 _ _ (Or.inr ⟨ej, ⟨rfl, LC.ke hli hke hcf hz⟩⟩)
def hh_L_isLost : List (Nat × Nat × Nat × Nat) := [(0, 16, 19, 21)]
theorem HO_L_isLost : zk_HO RL hh_L_isLost M_L_isLost := by
  intro pc X hp h
  have h2 : (match Nat.beq pc 4 with | true => (if X = "java/lang/IndexOutOfBoundsException" then some 19 else none) | false => none : Option Nat) = some hp := h
  clear h
  split at h2
  · rename_i e
    have e := Nat.eq_of_beq_eq_true e
    subst e
    by_cases e0 : X = "java/lang/IndexOutOfBoundsException"
    · subst e0
      rw [if_pos rfl] at h2
      cases h2
      exact ⟨[], ⟨0, 16, 19, 21⟩, [], rfl, fun _ h => absurd h List.not_mem_nil, by decide, by decide, rfl, "java/lang/IndexOutOfBoundsException", zk_wi 545 (by decide +kernel) rfl, zk_tb 556 (by decide +kernel)⟩
    rw [if_neg e0] at h2
    cases h2
  · cases h2
theorem ct_L_isLost {l : Launch} (hl : l.stackTraces = false) (E : zk_E) : zk_CH l E (zk_VT E) yL_isLost cL_isLost 4 (some (.int)) hh_L_isLost rm_L_isLost (sp_L_isLost E) := by
  refine zk_methH (M := M_L_isLost) (C := C_L_isLost E) (by decide +kernel) rfl HO_L_isLost (zk_VT_ok E) MO_L_isLost TO_L_isLost (fun _ => rfl) ?_ (vc_L_isLost E)
  exact fun p e s m args below meth c X pc n mc ms sp2 h => by
    have h2 := zk_lka_mem h
    simp only [List.mem_cons, List.not_mem_nil, or_false, Prod.mk.injEq] at h2
    rcases h2 with ⟨rfl, rfl, rfl, rfl, rfl⟩
    exact zk_coV (idx := 57) X (ct_X10_isLost hl E) (List.forall_mem_cons.mpr ⟨zk_wi 829 (by decide +kernel) rfl, List.forall_mem_cons.mpr ⟨zk_wi 830 (by decide +kernel) rfl, List.forall_mem_cons.mpr ⟨zk_wi 831 (by decide +kernel) rfl, List.forall_mem_cons.mpr ⟨zk_wi 1 (by decide +kernel) rfl, List.forall_mem_cons.mpr ⟨zk_wi 832 (by decide +kernel) rfl, fun _ h => absurd h List.not_mem_nil⟩⟩⟩⟩⟩) (fun ci h => by
      have h := Nat.eq_of_beq_eq_true h
      subst h
      exact ⟨_, _, rfl⟩) (by decide +kernel) ⟨by decide, by decide, by decide +kernel⟩ ⟨by decide, by decide⟩
def R_farWay (E : zk_E) (σ : zk_S) (sz : Nat) (r : Int32) (k : Int32) (σ2 : zk_S) (sz2 : Nat) : Prop := RD σ.1 σ.2.1 r (fun j => WO E σ sz σ2 sz2 k (a_far σ.1 σ.2.1 j).toInt64 σ.1 σ.2.1) (WN E σ sz σ2 sz2 k 1)
def sp_L_farWay (E : zk_E) : zk_Sp zk_S := fun av σ sz P PX => match av with
  | [.ref a, .int r, .ref o] => a = zk_ad E 0 ∧ o = zk_ad E 54 ∧ LI E sz σ ∧ ∀ k σ2 sz2, R_farWay E σ sz r k σ2 sz2 → P (some (.int k)) σ2 sz2
  | _ => False
theorem spe_L_farWay (E : zk_E) (a : Nat) (r : Int32) (o : Nat) (σ : zk_S) (sz : Nat) (P : zk_P zk_S) (PX : zk_X zk_S) : sp_L_farWay E [.ref a, .int r, .ref o] σ sz P PX = (a = zk_ad E 0 ∧ o = zk_ad E 54 ∧ LI E sz σ ∧ ∀ k σ2 sz2, R_farWay E σ sz r k σ2 sz2 → P (some (.int k)) σ2 sz2) := propext Iff.rfl
def C_L_farWay (E : zk_E) : zk_Cl zk_S := zk_lka [(4, 2, 1, 6, zk_rv (zk_VT E) (fun ci => Nat.beq ci 9) (sp_X10_farWay E))]
theorem r_L_farWay (E : zk_E) (P : zk_P zk_S) (PX : zk_X zk_S) (K : Nat → zk_L → List Value → zk_W zk_S → Prop) : (∀ (n : Nat) (l0 l1 l3 : Option Value) (y2 : Value) (r : List Value) (σ : zk_S) (sz k c : Nat), zk_run E (zk_VT E) M_L_farWay (C_L_farWay E) P PX K (n + 1) 0 [l0, l1, some y2, l3] r (σ, sz, k, c) = (zk_isr y2 ∧ zk_run E (zk_VT E) M_L_farWay (C_L_farWay E) P PX K n 1 [l0, l1, some y2, l3] (y2 :: r) (σ, sz, k, c))) ∧
  (∀ (n : Nat) (l0 l1 l2 l3 : Option Value)  (r : List Value) (σ : zk_S) (sz k c : Nat), zk_run E (zk_VT E) M_L_farWay (C_L_farWay E) P PX K (n + 1) 1 [l0, l1, l2, l3] r (σ, sz, k, c) = zk_run E (zk_VT E) M_L_farWay (C_L_farWay E) P PX K n 2 [l0, l1, l2, l3] (.int (0) :: r) (σ, sz, k, c)) ∧
  (∀ (n : Nat) (l1 l2 l3 : Option Value) (y0 : Value) (r : List Value) (σ : zk_S) (sz k c : Nat), zk_run E (zk_VT E) M_L_farWay (C_L_farWay E) P PX K (n + 1) 2 [some y0, l1, l2, l3] r (σ, sz, k, c) = (zk_isr y0 ∧ zk_run E (zk_VT E) M_L_farWay (C_L_farWay E) P PX K n 3 [some y0, l1, l2, l3] (y0 :: r) (σ, sz, k, c))) ∧
  (∀ (n : Nat) (l0 l2 l3 : Option Value) (y1 : Int32) (r : List Value) (σ : zk_S) (sz k c : Nat), zk_run E (zk_VT E) M_L_farWay (C_L_farWay E) P PX K (n + 1) 3 [l0, some (.int y1), l2, l3] r (σ, sz, k, c) = zk_run E (zk_VT E) M_L_farWay (C_L_farWay E) P PX K n 4 [l0, some (.int y1), l2, l3] (.int y1 :: r) (σ, sz, k, c)) ∧
  (∀ (n : Nat) (l0 l1 l2 l3 : Option Value) (v0 : Value) (v1 : Value) (v2 : Value) (v3 : Value)  (σ : zk_S) (sz k c : Nat), zk_run E (zk_VT E) M_L_farWay (C_L_farWay E) P PX K (n + 1) 4 [l0, l1, l2, l3] [v0, v1, v2, v3] (σ, sz, k, c) = (k + 1 ≤ 1 ∧ c + 6 ≤ 6 ∧ (zk_rv (zk_VT E) (fun ci => Nat.beq ci 9) (sp_X10_farWay E)) [v1, v0] σ sz (fun v s2 z2 => zk_run E (zk_VT E) M_L_farWay (C_L_farWay E) P PX K n 7 [l0, l1, l2, l3] (zk_psh v [v2, v3]) (s2, z2, k + 1, c + 6)) (fun X s2 z2 => (match (match Nat.beq 4 4 with
  | true => if X = "java/lang/IndexOutOfBoundsException" then some 12 else none
  | false => none : Option Nat) with
    | some hp => ∀ q : Nat, zk_run E (zk_VT E) M_L_farWay (C_L_farWay E) P PX K n hp [l0, l1, l2, l3] [.ref q] (s2, z2, k + 1, c + 6)
    | none => PX X s2 z2)))) ∧
  (∀ (n : Nat) (l0 l1 l2 l3 : Option Value) (x : Int32) (r : List Value) (σ : zk_S) (sz k c : Nat), zk_run E (zk_VT E) M_L_farWay (C_L_farWay E) P PX K (n + 1) 7 [l0, l1, l2, l3] (.int x :: r) (σ, sz, k, c) = zk_run E (zk_VT E) M_L_farWay (C_L_farWay E) P PX K n 8 [l0, l1, l2, l3] (.long (x.toInt64) :: r) (σ, sz, k, c)) ∧
  (∀ (n : Nat) (l0 l1 l2 l3 : Option Value) (a : Nat) (i : Int32) (x : Int64) (r : List Value) (σ : zk_S) (sz k c : Nat), zk_run E (zk_VT E) M_L_farWay (C_L_farWay E) P PX K (n + 1) 8 [l0, l1, l2, l3] (.long x :: .int i :: .ref a :: r) (σ, sz, k, c) = zk_lst (zk_view E σ a) (zk_ar E 2) i x (fun e => zk_wrok E σ a e ∧ zk_run E (zk_VT E) M_L_farWay (C_L_farWay E) P PX K n 9 [l0, l1, l2, l3] r (zk_wr E σ a e, sz, k, c))) ∧
  (∀ (n : Nat) (l0 l1 l2 l3 : Option Value)  (r : List Value) (σ : zk_S) (sz k c : Nat), zk_run E (zk_VT E) M_L_farWay (C_L_farWay E) P PX K (n + 1) 9 [l0, l1, l2, l3] r (σ, sz, k, c) = zk_run E (zk_VT E) M_L_farWay (C_L_farWay E) P PX K n 15 [l0, l1, l2, l3] r (σ, sz, k, c)) ∧
  (∀ (n : Nat) (l0 l1 l2 l3 : Option Value) (x : Value) (r : List Value) (σ : zk_S) (sz k c : Nat), zk_run E (zk_VT E) M_L_farWay (C_L_farWay E) P PX K (n + 1) 12 [l0, l1, l2, l3] (x :: r) (σ, sz, k, c) = (zk_isr x ∧ zk_run E (zk_VT E) M_L_farWay (C_L_farWay E) P PX K n 13 [l0, l1, zk_kl l2, some (x)] r (σ, sz, k, c))) ∧
  (∀ (n : Nat) (l0 l1 l2 l3 : Option Value)  (r : List Value) (σ : zk_S) (sz k c : Nat), zk_run E (zk_VT E) M_L_farWay (C_L_farWay E) P PX K (n + 1) 13 [l0, l1, l2, l3] r (σ, sz, k, c) = zk_run E (zk_VT E) M_L_farWay (C_L_farWay E) P PX K n 14 [l0, l1, l2, l3] (.int (1) :: r) (σ, sz, k, c)) ∧
  (∀ (n : Nat) (l0 l1 l2 l3 : Option Value) (x : Int32)  (σ : zk_S) (sz k c : Nat), zk_run E (zk_VT E) M_L_farWay (C_L_farWay E) P PX K (n + 1) 14 [l0, l1, l2, l3] [.int x] (σ, sz, k, c) = (zk_nok (some (.int)) x ∧ P (some (.int x)) σ sz ∧ k ≤ 1 ∧ c ≤ 6)) ∧
  (∀ (n : Nat) (l0 l1 l2 l3 : Option Value)  (r : List Value) (σ : zk_S) (sz k c : Nat), zk_run E (zk_VT E) M_L_farWay (C_L_farWay E) P PX K (n + 1) 15 [l0, l1, l2, l3] r (σ, sz, k, c) = zk_run E (zk_VT E) M_L_farWay (C_L_farWay E) P PX K n 16 [l0, l1, l2, l3] (.int (0) :: r) (σ, sz, k, c)) ∧
  (∀ (n : Nat) (l0 l1 l2 l3 : Option Value) (x : Int32)  (σ : zk_S) (sz k c : Nat), zk_run E (zk_VT E) M_L_farWay (C_L_farWay E) P PX K (n + 1) 16 [l0, l1, l2, l3] [.int x] (σ, sz, k, c) = (zk_nok (some (.int)) x ∧ P (some (.int x)) σ sz ∧ k ≤ 1 ∧ c ≤ 6)) ∧
  (∀ (n : Nat) (l0 l1 l2 l3 : Option Value) (r : List Value) (w : zk_W zk_S), zk_go E (zk_VT E) M_L_farWay (C_L_farWay E) P PX K n 0 [l0, l1, l2, l3] r w = zk_run E (zk_VT E) M_L_farWay (C_L_farWay E) P PX K (n + 1) 0 [l0, l1, l2, l3] r w) := ⟨by intros; rfl, by intros; rfl, by intros; rfl, by intros; rfl, by intros; rfl, by intros; rfl, by intros; rfl, by intros; rfl, by intros; rfl, by intros; rfl, by intros; rfl, by intros; rfl, by intros; rfl, by intros; rfl⟩
set_option maxHeartbeats 4000000 in
theorem vc_L_farWay (E : zk_E) : zk_VCH E (zk_VT E) M_L_farWay (C_L_farWay E) 4 (sp_L_farWay E) := by
  intro av σ sz P h
  obtain ⟨J, N, Q, O, U⟩ := σ
  unfold sp_L_farWay at h
  split at h
  case h_2 => exact h.elim
  rename_i a r o
  refine ⟨Nat.le_of_ble_eq_true rfl, fun G hG => ?_⟩
  change G 0 [some (.ref a), some (.int r), some (.ref o), none] [] ((J, N, Q, O, U), sz, 0, 0)
  try dsimp only at h
  obtain ⟨rfl, rfl, hli, h⟩ := h
  have hms := hli.2.1.1
  unfold R_farWay at h
  dsimp only at h
  (refine hG 900 _ _ _ _ ?_; simp only [r_L_farWay, zk_kl_none, zk_kl_int, zk_kl_ref, zk_kl_null, zk_kl_long, zk_kl_rf, zk_isr_ref, zk_isr_null, zk_isr_rf9, zk_c1_int, zk_c1_ref, zk_c1_null, zk_c1_rf, zk_psh_some, zk_psh_none, zk_nok_int, zk_nok_bool0, zk_nok_bool1, zk_nok_b, zk_fok_0, zk_fok_1, zk_fok_2, zk_fok_n, zk_fok_rf, zb_f, zb_p, zb_i, zb_a, zb_s, zk_nth_0, zk_nth_s, zk_fld_o, zk_put_o, zk_rv_eq, zk_ri_eq, zk_is_o, List.mem_cons, List.not_mem_nil, or_false, false_or, or_true, true_or, and_true, true_and, not_false_iff, not_true_eq_false, true_implies, false_implies, imp_self, implies_true, forall_const, zk_lit, zk_uj_ap, zk_un_ap, zk_un_un, zk_uj_uj, Nat.reduceEqDiff, eq_self, zk_bq, Bool.true_or, Bool.false_or, Nat.le_refl, Nat.zero_add, Nat.add_zero, Nat.reduceAdd, Nat.reduceLeDiff, Nat.le_zero_eq, and_self, and_false, false_and, ite_true, ite_false, Nat.zero_le, List.length_cons, List.length_nil, Option.some.injEq, forall_eq', reduceCtorEq, spe_X10_farWay])
  refine ⟨J, N, hli.2, ?_⟩
  refine RD.mk hms (fun j hj ej => ?_) (fun ej => ?_)
  · intro J2 N2 hke hcf
    simp only [r_L_farWay, zk_kl_none, zk_kl_int, zk_kl_ref, zk_kl_null, zk_kl_long, zk_kl_rf, zk_isr_ref, zk_isr_null, zk_isr_rf9, zk_c1_int, zk_c1_ref, zk_c1_null, zk_c1_rf, zk_psh_some, zk_psh_none, zk_nok_int, zk_nok_bool0, zk_nok_bool1, zk_nok_b, zk_fok_0, zk_fok_1, zk_fok_2, zk_fok_n, zk_fok_rf, zb_f, zb_p, zb_i, zb_a, zb_s, zk_nth_0, zk_nth_s, zk_fld_o, zk_put_o, zk_rv_eq, zk_ri_eq, zk_is_o, List.mem_cons, List.not_mem_nil, or_false, false_or, or_true, true_or, and_true, true_and, not_false_iff, not_true_eq_false, true_implies, false_implies, imp_self, implies_true, forall_const, zk_lit, zk_uj_ap, zk_un_ap, zk_un_un, zk_uj_uj, Nat.reduceEqDiff, eq_self, zk_bq, Bool.true_or, Bool.false_or, Nat.le_refl, Nat.zero_add, Nat.add_zero, Nat.reduceAdd, Nat.reduceLeDiff, Nat.le_zero_eq, and_self, and_false, false_and, ite_true, ite_false, Nat.zero_le, List.length_cons, List.length_nil, Option.some.injEq, forall_eq', reduceCtorEq, hc_q, hc_s, hc_v, hc_i]
    exact h 0 _ _ (Or.inl ⟨j, hj, ej, ⟨⟨rfl, up_L U _⟩, LC.ke hli hke hcf (Nat.le_refl _)⟩⟩)
  · intro J2 N2 z2 hke hcf hz
    simp only [r_L_farWay, zk_kl_none, zk_kl_int, zk_kl_ref, zk_kl_null, zk_kl_long, zk_kl_rf, zk_isr_ref, zk_isr_null, zk_isr_rf9, zk_c1_int, zk_c1_ref, zk_c1_null, zk_c1_rf, zk_psh_some, zk_psh_none, zk_nok_int, zk_nok_bool0, zk_nok_bool1, zk_nok_b, zk_fok_0, zk_fok_1, zk_fok_2, zk_fok_n, zk_fok_rf, zb_f, zb_p, zb_i, zb_a, zb_s, zk_nth_0, zk_nth_s, zk_fld_o, zk_put_o, zk_rv_eq, zk_ri_eq, zk_is_o, List.mem_cons, List.not_mem_nil, or_false, false_or, or_true, true_or, and_true, true_and, not_false_iff, not_true_eq_false, true_implies, false_implies, imp_self, implies_true, forall_const, zk_lit, zk_uj_ap, zk_un_ap, zk_un_un, zk_uj_uj, Nat.reduceEqDiff, eq_self, zk_bq, Bool.true_or, Bool.false_or, Nat.le_refl, Nat.zero_add, Nat.add_zero, Nat.reduceAdd, Nat.reduceLeDiff, Nat.le_zero_eq, and_self, and_false, false_and, ite_true, ite_false, Nat.zero_le, List.length_cons, List.length_nil, Option.some.injEq, forall_eq', reduceCtorEq, hc_q, hc_s, hc_v, hc_i]
    exact h 1 _ _ (Or.inr ⟨ej, ⟨rfl, LC.ke hli hke hcf hz⟩⟩)
def hh_L_farWay : List (Nat × Nat × Nat × Nat) := [(0, 9, 12, 21)]
theorem HO_L_farWay : zk_HO RL hh_L_farWay M_L_farWay := by
  intro pc X hp h
  have h2 : (match Nat.beq pc 4 with | true => (if X = "java/lang/IndexOutOfBoundsException" then some 12 else none) | false => none : Option Nat) = some hp := h
  clear h
  split at h2
  · rename_i e
    have e := Nat.eq_of_beq_eq_true e
    subst e
    by_cases e0 : X = "java/lang/IndexOutOfBoundsException"
    · subst e0
      rw [if_pos rfl] at h2
      cases h2
      exact ⟨[], ⟨0, 9, 12, 21⟩, [], rfl, fun _ h => absurd h List.not_mem_nil, by decide, by decide, rfl, "java/lang/IndexOutOfBoundsException", zk_wi 545 (by decide +kernel) rfl, zk_tb 556 (by decide +kernel)⟩
    rw [if_neg e0] at h2
    cases h2
  · cases h2
theorem ct_L_farWay {l : Launch} (hl : l.stackTraces = false) (E : zk_E) : zk_CH l E (zk_VT E) yL_farWay cL_farWay 4 (some (.int)) hh_L_farWay rm_L_farWay (sp_L_farWay E) := by
  refine zk_methH (M := M_L_farWay) (C := C_L_farWay E) (by decide +kernel) rfl HO_L_farWay (zk_VT_ok E) MO_L_farWay TO_L_farWay (fun _ => rfl) ?_ (vc_L_farWay E)
  exact fun p e s m args below meth c X pc n mc ms sp2 h => by
    have h2 := zk_lka_mem h
    simp only [List.mem_cons, List.not_mem_nil, or_false, Prod.mk.injEq] at h2
    rcases h2 with ⟨rfl, rfl, rfl, rfl, rfl⟩
    exact zk_coV (idx := 61) X (ct_X10_farWay hl E) (List.forall_mem_cons.mpr ⟨zk_wi 836 (by decide +kernel) rfl, List.forall_mem_cons.mpr ⟨zk_wi 837 (by decide +kernel) rfl, List.forall_mem_cons.mpr ⟨zk_wi 838 (by decide +kernel) rfl, List.forall_mem_cons.mpr ⟨zk_wi 1 (by decide +kernel) rfl, List.forall_mem_cons.mpr ⟨zk_wi 839 (by decide +kernel) rfl, fun _ h => absurd h List.not_mem_nil⟩⟩⟩⟩⟩) (fun ci h => by
      have h := Nat.eq_of_beq_eq_true h
      subst h
      exact ⟨_, _, rfl⟩) (by decide +kernel) ⟨by decide, by decide, by decide +kernel⟩ ⟨by decide, by decide⟩
def R_leaving (E : zk_E) (σ : zk_S) (sz : Nat) (r : Int32) (k : Int32) (σ2 : zk_S) (sz2 : Nat) : Prop := RD σ.1 σ.2.1 r (fun j => WO E σ sz σ2 sz2 k (a_leav σ.1 σ.2.1 j).toInt64 σ.1 σ.2.1) (WN E σ sz σ2 sz2 k 1)
def sp_L_leaving (E : zk_E) : zk_Sp zk_S := fun av σ sz P PX => match av with
  | [.ref a, .int r, .ref o] => a = zk_ad E 0 ∧ o = zk_ad E 54 ∧ LI E sz σ ∧ ∀ k σ2 sz2, R_leaving E σ sz r k σ2 sz2 → P (some (.int k)) σ2 sz2
  | _ => False
theorem spe_L_leaving (E : zk_E) (a : Nat) (r : Int32) (o : Nat) (σ : zk_S) (sz : Nat) (P : zk_P zk_S) (PX : zk_X zk_S) : sp_L_leaving E [.ref a, .int r, .ref o] σ sz P PX = (a = zk_ad E 0 ∧ o = zk_ad E 54 ∧ LI E sz σ ∧ ∀ k σ2 sz2, R_leaving E σ sz r k σ2 sz2 → P (some (.int k)) σ2 sz2) := propext Iff.rfl
def C_L_leaving (E : zk_E) : zk_Cl zk_S := zk_lka [(4, 2, 1, 6, zk_rv (zk_VT E) (fun ci => Nat.beq ci 9) (sp_X10_leaving E))]
theorem r_L_leaving (E : zk_E) (P : zk_P zk_S) (PX : zk_X zk_S) (K : Nat → zk_L → List Value → zk_W zk_S → Prop) : (∀ (n : Nat) (l0 l1 l3 : Option Value) (y2 : Value) (r : List Value) (σ : zk_S) (sz k c : Nat), zk_run E (zk_VT E) M_L_leaving (C_L_leaving E) P PX K (n + 1) 0 [l0, l1, some y2, l3] r (σ, sz, k, c) = (zk_isr y2 ∧ zk_run E (zk_VT E) M_L_leaving (C_L_leaving E) P PX K n 1 [l0, l1, some y2, l3] (y2 :: r) (σ, sz, k, c))) ∧
  (∀ (n : Nat) (l0 l1 l2 l3 : Option Value)  (r : List Value) (σ : zk_S) (sz k c : Nat), zk_run E (zk_VT E) M_L_leaving (C_L_leaving E) P PX K (n + 1) 1 [l0, l1, l2, l3] r (σ, sz, k, c) = zk_run E (zk_VT E) M_L_leaving (C_L_leaving E) P PX K n 2 [l0, l1, l2, l3] (.int (0) :: r) (σ, sz, k, c)) ∧
  (∀ (n : Nat) (l1 l2 l3 : Option Value) (y0 : Value) (r : List Value) (σ : zk_S) (sz k c : Nat), zk_run E (zk_VT E) M_L_leaving (C_L_leaving E) P PX K (n + 1) 2 [some y0, l1, l2, l3] r (σ, sz, k, c) = (zk_isr y0 ∧ zk_run E (zk_VT E) M_L_leaving (C_L_leaving E) P PX K n 3 [some y0, l1, l2, l3] (y0 :: r) (σ, sz, k, c))) ∧
  (∀ (n : Nat) (l0 l2 l3 : Option Value) (y1 : Int32) (r : List Value) (σ : zk_S) (sz k c : Nat), zk_run E (zk_VT E) M_L_leaving (C_L_leaving E) P PX K (n + 1) 3 [l0, some (.int y1), l2, l3] r (σ, sz, k, c) = zk_run E (zk_VT E) M_L_leaving (C_L_leaving E) P PX K n 4 [l0, some (.int y1), l2, l3] (.int y1 :: r) (σ, sz, k, c)) ∧
  (∀ (n : Nat) (l0 l1 l2 l3 : Option Value) (v0 : Value) (v1 : Value) (v2 : Value) (v3 : Value)  (σ : zk_S) (sz k c : Nat), zk_run E (zk_VT E) M_L_leaving (C_L_leaving E) P PX K (n + 1) 4 [l0, l1, l2, l3] [v0, v1, v2, v3] (σ, sz, k, c) = (k + 1 ≤ 1 ∧ c + 6 ≤ 6 ∧ (zk_rv (zk_VT E) (fun ci => Nat.beq ci 9) (sp_X10_leaving E)) [v1, v0] σ sz (fun v s2 z2 => zk_run E (zk_VT E) M_L_leaving (C_L_leaving E) P PX K n 7 [l0, l1, l2, l3] (zk_psh v [v2, v3]) (s2, z2, k + 1, c + 6)) (fun X s2 z2 => (match (match Nat.beq 4 4 with
  | true => if X = "java/lang/IndexOutOfBoundsException" then some 12 else none
  | false => none : Option Nat) with
    | some hp => ∀ q : Nat, zk_run E (zk_VT E) M_L_leaving (C_L_leaving E) P PX K n hp [l0, l1, l2, l3] [.ref q] (s2, z2, k + 1, c + 6)
    | none => PX X s2 z2)))) ∧
  (∀ (n : Nat) (l0 l1 l2 l3 : Option Value) (x : Int32) (r : List Value) (σ : zk_S) (sz k c : Nat), zk_run E (zk_VT E) M_L_leaving (C_L_leaving E) P PX K (n + 1) 7 [l0, l1, l2, l3] (.int x :: r) (σ, sz, k, c) = zk_run E (zk_VT E) M_L_leaving (C_L_leaving E) P PX K n 8 [l0, l1, l2, l3] (.long (x.toInt64) :: r) (σ, sz, k, c)) ∧
  (∀ (n : Nat) (l0 l1 l2 l3 : Option Value) (a : Nat) (i : Int32) (x : Int64) (r : List Value) (σ : zk_S) (sz k c : Nat), zk_run E (zk_VT E) M_L_leaving (C_L_leaving E) P PX K (n + 1) 8 [l0, l1, l2, l3] (.long x :: .int i :: .ref a :: r) (σ, sz, k, c) = zk_lst (zk_view E σ a) (zk_ar E 2) i x (fun e => zk_wrok E σ a e ∧ zk_run E (zk_VT E) M_L_leaving (C_L_leaving E) P PX K n 9 [l0, l1, l2, l3] r (zk_wr E σ a e, sz, k, c))) ∧
  (∀ (n : Nat) (l0 l1 l2 l3 : Option Value)  (r : List Value) (σ : zk_S) (sz k c : Nat), zk_run E (zk_VT E) M_L_leaving (C_L_leaving E) P PX K (n + 1) 9 [l0, l1, l2, l3] r (σ, sz, k, c) = zk_run E (zk_VT E) M_L_leaving (C_L_leaving E) P PX K n 15 [l0, l1, l2, l3] r (σ, sz, k, c)) ∧
  (∀ (n : Nat) (l0 l1 l2 l3 : Option Value) (x : Value) (r : List Value) (σ : zk_S) (sz k c : Nat), zk_run E (zk_VT E) M_L_leaving (C_L_leaving E) P PX K (n + 1) 12 [l0, l1, l2, l3] (x :: r) (σ, sz, k, c) = (zk_isr x ∧ zk_run E (zk_VT E) M_L_leaving (C_L_leaving E) P PX K n 13 [l0, l1, zk_kl l2, some (x)] r (σ, sz, k, c))) ∧
  (∀ (n : Nat) (l0 l1 l2 l3 : Option Value)  (r : List Value) (σ : zk_S) (sz k c : Nat), zk_run E (zk_VT E) M_L_leaving (C_L_leaving E) P PX K (n + 1) 13 [l0, l1, l2, l3] r (σ, sz, k, c) = zk_run E (zk_VT E) M_L_leaving (C_L_leaving E) P PX K n 14 [l0, l1, l2, l3] (.int (1) :: r) (σ, sz, k, c)) ∧
  (∀ (n : Nat) (l0 l1 l2 l3 : Option Value) (x : Int32)  (σ : zk_S) (sz k c : Nat), zk_run E (zk_VT E) M_L_leaving (C_L_leaving E) P PX K (n + 1) 14 [l0, l1, l2, l3] [.int x] (σ, sz, k, c) = (zk_nok (some (.int)) x ∧ P (some (.int x)) σ sz ∧ k ≤ 1 ∧ c ≤ 6)) ∧
  (∀ (n : Nat) (l0 l1 l2 l3 : Option Value)  (r : List Value) (σ : zk_S) (sz k c : Nat), zk_run E (zk_VT E) M_L_leaving (C_L_leaving E) P PX K (n + 1) 15 [l0, l1, l2, l3] r (σ, sz, k, c) = zk_run E (zk_VT E) M_L_leaving (C_L_leaving E) P PX K n 16 [l0, l1, l2, l3] (.int (0) :: r) (σ, sz, k, c)) ∧
  (∀ (n : Nat) (l0 l1 l2 l3 : Option Value) (x : Int32)  (σ : zk_S) (sz k c : Nat), zk_run E (zk_VT E) M_L_leaving (C_L_leaving E) P PX K (n + 1) 16 [l0, l1, l2, l3] [.int x] (σ, sz, k, c) = (zk_nok (some (.int)) x ∧ P (some (.int x)) σ sz ∧ k ≤ 1 ∧ c ≤ 6)) ∧
  (∀ (n : Nat) (l0 l1 l2 l3 : Option Value) (r : List Value) (w : zk_W zk_S), zk_go E (zk_VT E) M_L_leaving (C_L_leaving E) P PX K n 0 [l0, l1, l2, l3] r w = zk_run E (zk_VT E) M_L_leaving (C_L_leaving E) P PX K (n + 1) 0 [l0, l1, l2, l3] r w) := ⟨by intros; rfl, by intros; rfl, by intros; rfl, by intros; rfl, by intros; rfl, by intros; rfl, by intros; rfl, by intros; rfl, by intros; rfl, by intros; rfl, by intros; rfl, by intros; rfl, by intros; rfl, by intros; rfl⟩
set_option maxHeartbeats 4000000 in
theorem vc_L_leaving (E : zk_E) : zk_VCH E (zk_VT E) M_L_leaving (C_L_leaving E) 4 (sp_L_leaving E) := by
  intro av σ sz P h
  obtain ⟨J, N, Q, O, U⟩ := σ
  unfold sp_L_leaving at h
  split at h
  case h_2 => exact h.elim
  rename_i a r o
  refine ⟨Nat.le_of_ble_eq_true rfl, fun G hG => ?_⟩
  change G 0 [some (.ref a), some (.int r), some (.ref o), none] [] ((J, N, Q, O, U), sz, 0, 0)
  try dsimp only at h
  obtain ⟨rfl, rfl, hli, h⟩ := h
  have hms := hli.2.1.1
  unfold R_leaving at h
  dsimp only at h
  (refine hG 900 _ _ _ _ ?_; simp only [r_L_leaving, zk_kl_none, zk_kl_int, zk_kl_ref, zk_kl_null, zk_kl_long, zk_kl_rf, zk_isr_ref, zk_isr_null, zk_isr_rf9, zk_c1_int, zk_c1_ref, zk_c1_null, zk_c1_rf, zk_psh_some, zk_psh_none, zk_nok_int, zk_nok_bool0, zk_nok_bool1, zk_nok_b, zk_fok_0, zk_fok_1, zk_fok_2, zk_fok_n, zk_fok_rf, zb_f, zb_p, zb_i, zb_a, zb_s, zk_nth_0, zk_nth_s, zk_fld_o, zk_put_o, zk_rv_eq, zk_ri_eq, zk_is_o, List.mem_cons, List.not_mem_nil, or_false, false_or, or_true, true_or, and_true, true_and, not_false_iff, not_true_eq_false, true_implies, false_implies, imp_self, implies_true, forall_const, zk_lit, zk_uj_ap, zk_un_ap, zk_un_un, zk_uj_uj, Nat.reduceEqDiff, eq_self, zk_bq, Bool.true_or, Bool.false_or, Nat.le_refl, Nat.zero_add, Nat.add_zero, Nat.reduceAdd, Nat.reduceLeDiff, Nat.le_zero_eq, and_self, and_false, false_and, ite_true, ite_false, Nat.zero_le, List.length_cons, List.length_nil, Option.some.injEq, forall_eq', reduceCtorEq, spe_X10_leaving])
  refine ⟨J, N, hli.2, ?_⟩
  refine RD.mk hms (fun j hj ej => ?_) (fun ej => ?_)
  · intro J2 N2 hke hcf
    simp only [r_L_leaving, zk_kl_none, zk_kl_int, zk_kl_ref, zk_kl_null, zk_kl_long, zk_kl_rf, zk_isr_ref, zk_isr_null, zk_isr_rf9, zk_c1_int, zk_c1_ref, zk_c1_null, zk_c1_rf, zk_psh_some, zk_psh_none, zk_nok_int, zk_nok_bool0, zk_nok_bool1, zk_nok_b, zk_fok_0, zk_fok_1, zk_fok_2, zk_fok_n, zk_fok_rf, zb_f, zb_p, zb_i, zb_a, zb_s, zk_nth_0, zk_nth_s, zk_fld_o, zk_put_o, zk_rv_eq, zk_ri_eq, zk_is_o, List.mem_cons, List.not_mem_nil, or_false, false_or, or_true, true_or, and_true, true_and, not_false_iff, not_true_eq_false, true_implies, false_implies, imp_self, implies_true, forall_const, zk_lit, zk_uj_ap, zk_un_ap, zk_un_un, zk_uj_uj, Nat.reduceEqDiff, eq_self, zk_bq, Bool.true_or, Bool.false_or, Nat.le_refl, Nat.zero_add, Nat.add_zero, Nat.reduceAdd, Nat.reduceLeDiff, Nat.le_zero_eq, and_self, and_false, false_and, ite_true, ite_false, Nat.zero_le, List.length_cons, List.length_nil, Option.some.injEq, forall_eq', reduceCtorEq, hc_q, hc_s, hc_v, hc_i]
    exact h 0 _ _ (Or.inl ⟨j, hj, ej, ⟨⟨rfl, up_L U _⟩, LC.ke hli hke hcf (Nat.le_refl _)⟩⟩)
  · intro J2 N2 z2 hke hcf hz
    simp only [r_L_leaving, zk_kl_none, zk_kl_int, zk_kl_ref, zk_kl_null, zk_kl_long, zk_kl_rf, zk_isr_ref, zk_isr_null, zk_isr_rf9, zk_c1_int, zk_c1_ref, zk_c1_null, zk_c1_rf, zk_psh_some, zk_psh_none, zk_nok_int, zk_nok_bool0, zk_nok_bool1, zk_nok_b, zk_fok_0, zk_fok_1, zk_fok_2, zk_fok_n, zk_fok_rf, zb_f, zb_p, zb_i, zb_a, zb_s, zk_nth_0, zk_nth_s, zk_fld_o, zk_put_o, zk_rv_eq, zk_ri_eq, zk_is_o, List.mem_cons, List.not_mem_nil, or_false, false_or, or_true, true_or, and_true, true_and, not_false_iff, not_true_eq_false, true_implies, false_implies, imp_self, implies_true, forall_const, zk_lit, zk_uj_ap, zk_un_ap, zk_un_un, zk_uj_uj, Nat.reduceEqDiff, eq_self, zk_bq, Bool.true_or, Bool.false_or, Nat.le_refl, Nat.zero_add, Nat.add_zero, Nat.reduceAdd, Nat.reduceLeDiff, Nat.le_zero_eq, and_self, and_false, false_and, ite_true, ite_false, Nat.zero_le, List.length_cons, List.length_nil, Option.some.injEq, forall_eq', reduceCtorEq, hc_q, hc_s, hc_v, hc_i]
    exact h 1 _ _ (Or.inr ⟨ej, ⟨rfl, LC.ke hli hke hcf hz⟩⟩)
def hh_L_leaving : List (Nat × Nat × Nat × Nat) := [(0, 9, 12, 21)]
theorem HO_L_leaving : zk_HO RL hh_L_leaving M_L_leaving := by
  intro pc X hp h
  have h2 : (match Nat.beq pc 4 with | true => (if X = "java/lang/IndexOutOfBoundsException" then some 12 else none) | false => none : Option Nat) = some hp := h
  clear h
  split at h2
  · rename_i e
    have e := Nat.eq_of_beq_eq_true e
    subst e
    by_cases e0 : X = "java/lang/IndexOutOfBoundsException"
    · subst e0
      rw [if_pos rfl] at h2
      cases h2
      exact ⟨[], ⟨0, 9, 12, 21⟩, [], rfl, fun _ h => absurd h List.not_mem_nil, by decide, by decide, rfl, "java/lang/IndexOutOfBoundsException", zk_wi 545 (by decide +kernel) rfl, zk_tb 556 (by decide +kernel)⟩
    rw [if_neg e0] at h2
    cases h2
  · cases h2
theorem ct_L_leaving {l : Launch} (hl : l.stackTraces = false) (E : zk_E) : zk_CH l E (zk_VT E) yL_leaving cL_leaving 4 (some (.int)) hh_L_leaving rm_L_leaving (sp_L_leaving E) := by
  refine zk_methH (M := M_L_leaving) (C := C_L_leaving E) (by decide +kernel) rfl HO_L_leaving (zk_VT_ok E) MO_L_leaving TO_L_leaving (fun _ => rfl) ?_ (vc_L_leaving E)
  exact fun p e s m args below meth c X pc n mc ms sp2 h => by
    have h2 := zk_lka_mem h
    simp only [List.mem_cons, List.not_mem_nil, or_false, Prod.mk.injEq] at h2
    rcases h2 with ⟨rfl, rfl, rfl, rfl, rfl⟩
    exact zk_coV (idx := 64) X (ct_X10_leaving hl E) (List.forall_mem_cons.mpr ⟨zk_wi 843 (by decide +kernel) rfl, List.forall_mem_cons.mpr ⟨zk_wi 844 (by decide +kernel) rfl, List.forall_mem_cons.mpr ⟨zk_wi 845 (by decide +kernel) rfl, List.forall_mem_cons.mpr ⟨zk_wi 1 (by decide +kernel) rfl, List.forall_mem_cons.mpr ⟨zk_wi 846 (by decide +kernel) rfl, fun _ h => absurd h List.not_mem_nil⟩⟩⟩⟩⟩) (fun ci h => by
      have h := Nat.eq_of_beq_eq_true h
      subst h
      exact ⟨_, _, rfl⟩) (by decide +kernel) ⟨by decide, by decide, by decide +kernel⟩ ⟨by decide, by decide⟩
def R_middleWay (E : zk_E) (σ : zk_S) (sz : Nat) (r : Int32) (k : Int32) (σ2 : zk_S) (sz2 : Nat) : Prop := RD σ.1 σ.2.1 r (fun j => WO E σ sz σ2 sz2 k (a_mid σ.1 σ.2.1 j).toInt64 σ.1 σ.2.1) (WN E σ sz σ2 sz2 k 1)
def sp_L_middleWay (E : zk_E) : zk_Sp zk_S := fun av σ sz P PX => match av with
  | [.ref a, .int r, .ref o] => a = zk_ad E 0 ∧ o = zk_ad E 54 ∧ LI E sz σ ∧ ∀ k σ2 sz2, R_middleWay E σ sz r k σ2 sz2 → P (some (.int k)) σ2 sz2
  | _ => False
theorem spe_L_middleWay (E : zk_E) (a : Nat) (r : Int32) (o : Nat) (σ : zk_S) (sz : Nat) (P : zk_P zk_S) (PX : zk_X zk_S) : sp_L_middleWay E [.ref a, .int r, .ref o] σ sz P PX = (a = zk_ad E 0 ∧ o = zk_ad E 54 ∧ LI E sz σ ∧ ∀ k σ2 sz2, R_middleWay E σ sz r k σ2 sz2 → P (some (.int k)) σ2 sz2) := propext Iff.rfl
def C_L_middleWay (E : zk_E) : zk_Cl zk_S := zk_lka [(4, 2, 1, 6, zk_rv (zk_VT E) (fun ci => Nat.beq ci 9) (sp_X10_middleWay E))]
theorem r_L_middleWay (E : zk_E) (P : zk_P zk_S) (PX : zk_X zk_S) (K : Nat → zk_L → List Value → zk_W zk_S → Prop) : (∀ (n : Nat) (l0 l1 l3 : Option Value) (y2 : Value) (r : List Value) (σ : zk_S) (sz k c : Nat), zk_run E (zk_VT E) M_L_middleWay (C_L_middleWay E) P PX K (n + 1) 0 [l0, l1, some y2, l3] r (σ, sz, k, c) = (zk_isr y2 ∧ zk_run E (zk_VT E) M_L_middleWay (C_L_middleWay E) P PX K n 1 [l0, l1, some y2, l3] (y2 :: r) (σ, sz, k, c))) ∧
  (∀ (n : Nat) (l0 l1 l2 l3 : Option Value)  (r : List Value) (σ : zk_S) (sz k c : Nat), zk_run E (zk_VT E) M_L_middleWay (C_L_middleWay E) P PX K (n + 1) 1 [l0, l1, l2, l3] r (σ, sz, k, c) = zk_run E (zk_VT E) M_L_middleWay (C_L_middleWay E) P PX K n 2 [l0, l1, l2, l3] (.int (0) :: r) (σ, sz, k, c)) ∧
  (∀ (n : Nat) (l1 l2 l3 : Option Value) (y0 : Value) (r : List Value) (σ : zk_S) (sz k c : Nat), zk_run E (zk_VT E) M_L_middleWay (C_L_middleWay E) P PX K (n + 1) 2 [some y0, l1, l2, l3] r (σ, sz, k, c) = (zk_isr y0 ∧ zk_run E (zk_VT E) M_L_middleWay (C_L_middleWay E) P PX K n 3 [some y0, l1, l2, l3] (y0 :: r) (σ, sz, k, c))) ∧
  (∀ (n : Nat) (l0 l2 l3 : Option Value) (y1 : Int32) (r : List Value) (σ : zk_S) (sz k c : Nat), zk_run E (zk_VT E) M_L_middleWay (C_L_middleWay E) P PX K (n + 1) 3 [l0, some (.int y1), l2, l3] r (σ, sz, k, c) = zk_run E (zk_VT E) M_L_middleWay (C_L_middleWay E) P PX K n 4 [l0, some (.int y1), l2, l3] (.int y1 :: r) (σ, sz, k, c)) ∧
  (∀ (n : Nat) (l0 l1 l2 l3 : Option Value) (v0 : Value) (v1 : Value) (v2 : Value) (v3 : Value)  (σ : zk_S) (sz k c : Nat), zk_run E (zk_VT E) M_L_middleWay (C_L_middleWay E) P PX K (n + 1) 4 [l0, l1, l2, l3] [v0, v1, v2, v3] (σ, sz, k, c) = (k + 1 ≤ 1 ∧ c + 6 ≤ 6 ∧ (zk_rv (zk_VT E) (fun ci => Nat.beq ci 9) (sp_X10_middleWay E)) [v1, v0] σ sz (fun v s2 z2 => zk_run E (zk_VT E) M_L_middleWay (C_L_middleWay E) P PX K n 7 [l0, l1, l2, l3] (zk_psh v [v2, v3]) (s2, z2, k + 1, c + 6)) (fun X s2 z2 => (match (match Nat.beq 4 4 with
  | true => if X = "java/lang/IndexOutOfBoundsException" then some 12 else none
  | false => none : Option Nat) with
    | some hp => ∀ q : Nat, zk_run E (zk_VT E) M_L_middleWay (C_L_middleWay E) P PX K n hp [l0, l1, l2, l3] [.ref q] (s2, z2, k + 1, c + 6)
    | none => PX X s2 z2)))) ∧
  (∀ (n : Nat) (l0 l1 l2 l3 : Option Value) (x : Int32) (r : List Value) (σ : zk_S) (sz k c : Nat), zk_run E (zk_VT E) M_L_middleWay (C_L_middleWay E) P PX K (n + 1) 7 [l0, l1, l2, l3] (.int x :: r) (σ, sz, k, c) = zk_run E (zk_VT E) M_L_middleWay (C_L_middleWay E) P PX K n 8 [l0, l1, l2, l3] (.long (x.toInt64) :: r) (σ, sz, k, c)) ∧
  (∀ (n : Nat) (l0 l1 l2 l3 : Option Value) (a : Nat) (i : Int32) (x : Int64) (r : List Value) (σ : zk_S) (sz k c : Nat), zk_run E (zk_VT E) M_L_middleWay (C_L_middleWay E) P PX K (n + 1) 8 [l0, l1, l2, l3] (.long x :: .int i :: .ref a :: r) (σ, sz, k, c) = zk_lst (zk_view E σ a) (zk_ar E 2) i x (fun e => zk_wrok E σ a e ∧ zk_run E (zk_VT E) M_L_middleWay (C_L_middleWay E) P PX K n 9 [l0, l1, l2, l3] r (zk_wr E σ a e, sz, k, c))) ∧
  (∀ (n : Nat) (l0 l1 l2 l3 : Option Value)  (r : List Value) (σ : zk_S) (sz k c : Nat), zk_run E (zk_VT E) M_L_middleWay (C_L_middleWay E) P PX K (n + 1) 9 [l0, l1, l2, l3] r (σ, sz, k, c) = zk_run E (zk_VT E) M_L_middleWay (C_L_middleWay E) P PX K n 15 [l0, l1, l2, l3] r (σ, sz, k, c)) ∧
  (∀ (n : Nat) (l0 l1 l2 l3 : Option Value) (x : Value) (r : List Value) (σ : zk_S) (sz k c : Nat), zk_run E (zk_VT E) M_L_middleWay (C_L_middleWay E) P PX K (n + 1) 12 [l0, l1, l2, l3] (x :: r) (σ, sz, k, c) = (zk_isr x ∧ zk_run E (zk_VT E) M_L_middleWay (C_L_middleWay E) P PX K n 13 [l0, l1, zk_kl l2, some (x)] r (σ, sz, k, c))) ∧
  (∀ (n : Nat) (l0 l1 l2 l3 : Option Value)  (r : List Value) (σ : zk_S) (sz k c : Nat), zk_run E (zk_VT E) M_L_middleWay (C_L_middleWay E) P PX K (n + 1) 13 [l0, l1, l2, l3] r (σ, sz, k, c) = zk_run E (zk_VT E) M_L_middleWay (C_L_middleWay E) P PX K n 14 [l0, l1, l2, l3] (.int (1) :: r) (σ, sz, k, c)) ∧
  (∀ (n : Nat) (l0 l1 l2 l3 : Option Value) (x : Int32)  (σ : zk_S) (sz k c : Nat), zk_run E (zk_VT E) M_L_middleWay (C_L_middleWay E) P PX K (n + 1) 14 [l0, l1, l2, l3] [.int x] (σ, sz, k, c) = (zk_nok (some (.int)) x ∧ P (some (.int x)) σ sz ∧ k ≤ 1 ∧ c ≤ 6)) ∧
  (∀ (n : Nat) (l0 l1 l2 l3 : Option Value)  (r : List Value) (σ : zk_S) (sz k c : Nat), zk_run E (zk_VT E) M_L_middleWay (C_L_middleWay E) P PX K (n + 1) 15 [l0, l1, l2, l3] r (σ, sz, k, c) = zk_run E (zk_VT E) M_L_middleWay (C_L_middleWay E) P PX K n 16 [l0, l1, l2, l3] (.int (0) :: r) (σ, sz, k, c)) ∧
  (∀ (n : Nat) (l0 l1 l2 l3 : Option Value) (x : Int32)  (σ : zk_S) (sz k c : Nat), zk_run E (zk_VT E) M_L_middleWay (C_L_middleWay E) P PX K (n + 1) 16 [l0, l1, l2, l3] [.int x] (σ, sz, k, c) = (zk_nok (some (.int)) x ∧ P (some (.int x)) σ sz ∧ k ≤ 1 ∧ c ≤ 6)) ∧
  (∀ (n : Nat) (l0 l1 l2 l3 : Option Value) (r : List Value) (w : zk_W zk_S), zk_go E (zk_VT E) M_L_middleWay (C_L_middleWay E) P PX K n 0 [l0, l1, l2, l3] r w = zk_run E (zk_VT E) M_L_middleWay (C_L_middleWay E) P PX K (n + 1) 0 [l0, l1, l2, l3] r w) := ⟨by intros; rfl, by intros; rfl, by intros; rfl, by intros; rfl, by intros; rfl, by intros; rfl, by intros; rfl, by intros; rfl, by intros; rfl, by intros; rfl, by intros; rfl, by intros; rfl, by intros; rfl, by intros; rfl⟩
set_option maxHeartbeats 4000000 in
theorem vc_L_middleWay (E : zk_E) : zk_VCH E (zk_VT E) M_L_middleWay (C_L_middleWay E) 4 (sp_L_middleWay E) := by
  intro av σ sz P h
  obtain ⟨J, N, Q, O, U⟩ := σ
  unfold sp_L_middleWay at h
  split at h
  case h_2 => exact h.elim
  rename_i a r o
  refine ⟨Nat.le_of_ble_eq_true rfl, fun G hG => ?_⟩
  change G 0 [some (.ref a), some (.int r), some (.ref o), none] [] ((J, N, Q, O, U), sz, 0, 0)
  try dsimp only at h
  obtain ⟨rfl, rfl, hli, h⟩ := h
  have hms := hli.2.1.1
  unfold R_middleWay at h
  dsimp only at h
  (refine hG 900 _ _ _ _ ?_; simp only [r_L_middleWay, zk_kl_none, zk_kl_int, zk_kl_ref, zk_kl_null, zk_kl_long, zk_kl_rf, zk_isr_ref, zk_isr_null, zk_isr_rf9, zk_c1_int, zk_c1_ref, zk_c1_null, zk_c1_rf, zk_psh_some, zk_psh_none, zk_nok_int, zk_nok_bool0, zk_nok_bool1, zk_nok_b, zk_fok_0, zk_fok_1, zk_fok_2, zk_fok_n, zk_fok_rf, zb_f, zb_p, zb_i, zb_a, zb_s, zk_nth_0, zk_nth_s, zk_fld_o, zk_put_o, zk_rv_eq, zk_ri_eq, zk_is_o, List.mem_cons, List.not_mem_nil, or_false, false_or, or_true, true_or, and_true, true_and, not_false_iff, not_true_eq_false, true_implies, false_implies, imp_self, implies_true, forall_const, zk_lit, zk_uj_ap, zk_un_ap, zk_un_un, zk_uj_uj, Nat.reduceEqDiff, eq_self, zk_bq, Bool.true_or, Bool.false_or, Nat.le_refl, Nat.zero_add, Nat.add_zero, Nat.reduceAdd, Nat.reduceLeDiff, Nat.le_zero_eq, and_self, and_false, false_and, ite_true, ite_false, Nat.zero_le, List.length_cons, List.length_nil, Option.some.injEq, forall_eq', reduceCtorEq, spe_X10_middleWay])
  refine ⟨J, N, hli.2, ?_⟩
  refine RD.mk hms (fun j hj ej => ?_) (fun ej => ?_)
  · intro J2 N2 hke hcf
    simp only [r_L_middleWay, zk_kl_none, zk_kl_int, zk_kl_ref, zk_kl_null, zk_kl_long, zk_kl_rf, zk_isr_ref, zk_isr_null, zk_isr_rf9, zk_c1_int, zk_c1_ref, zk_c1_null, zk_c1_rf, zk_psh_some, zk_psh_none, zk_nok_int, zk_nok_bool0, zk_nok_bool1, zk_nok_b, zk_fok_0, zk_fok_1, zk_fok_2, zk_fok_n, zk_fok_rf, zb_f, zb_p, zb_i, zb_a, zb_s, zk_nth_0, zk_nth_s, zk_fld_o, zk_put_o, zk_rv_eq, zk_ri_eq, zk_is_o, List.mem_cons, List.not_mem_nil, or_false, false_or, or_true, true_or, and_true, true_and, not_false_iff, not_true_eq_false, true_implies, false_implies, imp_self, implies_true, forall_const, zk_lit, zk_uj_ap, zk_un_ap, zk_un_un, zk_uj_uj, Nat.reduceEqDiff, eq_self, zk_bq, Bool.true_or, Bool.false_or, Nat.le_refl, Nat.zero_add, Nat.add_zero, Nat.reduceAdd, Nat.reduceLeDiff, Nat.le_zero_eq, and_self, and_false, false_and, ite_true, ite_false, Nat.zero_le, List.length_cons, List.length_nil, Option.some.injEq, forall_eq', reduceCtorEq, hc_q, hc_s, hc_v, hc_i]
    exact h 0 _ _ (Or.inl ⟨j, hj, ej, ⟨⟨rfl, up_L U _⟩, LC.ke hli hke hcf (Nat.le_refl _)⟩⟩)
  · intro J2 N2 z2 hke hcf hz
    simp only [r_L_middleWay, zk_kl_none, zk_kl_int, zk_kl_ref, zk_kl_null, zk_kl_long, zk_kl_rf, zk_isr_ref, zk_isr_null, zk_isr_rf9, zk_c1_int, zk_c1_ref, zk_c1_null, zk_c1_rf, zk_psh_some, zk_psh_none, zk_nok_int, zk_nok_bool0, zk_nok_bool1, zk_nok_b, zk_fok_0, zk_fok_1, zk_fok_2, zk_fok_n, zk_fok_rf, zb_f, zb_p, zb_i, zb_a, zb_s, zk_nth_0, zk_nth_s, zk_fld_o, zk_put_o, zk_rv_eq, zk_ri_eq, zk_is_o, List.mem_cons, List.not_mem_nil, or_false, false_or, or_true, true_or, and_true, true_and, not_false_iff, not_true_eq_false, true_implies, false_implies, imp_self, implies_true, forall_const, zk_lit, zk_uj_ap, zk_un_ap, zk_un_un, zk_uj_uj, Nat.reduceEqDiff, eq_self, zk_bq, Bool.true_or, Bool.false_or, Nat.le_refl, Nat.zero_add, Nat.add_zero, Nat.reduceAdd, Nat.reduceLeDiff, Nat.le_zero_eq, and_self, and_false, false_and, ite_true, ite_false, Nat.zero_le, List.length_cons, List.length_nil, Option.some.injEq, forall_eq', reduceCtorEq, hc_q, hc_s, hc_v, hc_i]
    exact h 1 _ _ (Or.inr ⟨ej, ⟨rfl, LC.ke hli hke hcf hz⟩⟩)
def hh_L_middleWay : List (Nat × Nat × Nat × Nat) := [(0, 9, 12, 21)]
theorem HO_L_middleWay : zk_HO RL hh_L_middleWay M_L_middleWay := by
  intro pc X hp h
  have h2 : (match Nat.beq pc 4 with | true => (if X = "java/lang/IndexOutOfBoundsException" then some 12 else none) | false => none : Option Nat) = some hp := h
  clear h
  split at h2
  · rename_i e
    have e := Nat.eq_of_beq_eq_true e
    subst e
    by_cases e0 : X = "java/lang/IndexOutOfBoundsException"
    · subst e0
      rw [if_pos rfl] at h2
      cases h2
      exact ⟨[], ⟨0, 9, 12, 21⟩, [], rfl, fun _ h => absurd h List.not_mem_nil, by decide, by decide, rfl, "java/lang/IndexOutOfBoundsException", zk_wi 545 (by decide +kernel) rfl, zk_tb 556 (by decide +kernel)⟩
    rw [if_neg e0] at h2
    cases h2
  · cases h2
theorem ct_L_middleWay {l : Launch} (hl : l.stackTraces = false) (E : zk_E) : zk_CH l E (zk_VT E) yL_middleWay cL_middleWay 4 (some (.int)) hh_L_middleWay rm_L_middleWay (sp_L_middleWay E) := by
  refine zk_methH (M := M_L_middleWay) (C := C_L_middleWay E) (by decide +kernel) rfl HO_L_middleWay (zk_VT_ok E) MO_L_middleWay TO_L_middleWay (fun _ => rfl) ?_ (vc_L_middleWay E)
  exact fun p e s m args below meth c X pc n mc ms sp2 h => by
    have h2 := zk_lka_mem h
    simp only [List.mem_cons, List.not_mem_nil, or_false, Prod.mk.injEq] at h2
    rcases h2 with ⟨rfl, rfl, rfl, rfl, rfl⟩
    exact zk_coV (idx := 67) X (ct_X10_middleWay hl E) (List.forall_mem_cons.mpr ⟨zk_wi 850 (by decide +kernel) rfl, List.forall_mem_cons.mpr ⟨zk_wi 851 (by decide +kernel) rfl, List.forall_mem_cons.mpr ⟨zk_wi 852 (by decide +kernel) rfl, List.forall_mem_cons.mpr ⟨zk_wi 1 (by decide +kernel) rfl, List.forall_mem_cons.mpr ⟨zk_wi 853 (by decide +kernel) rfl, fun _ h => absurd h List.not_mem_nil⟩⟩⟩⟩⟩) (fun ci h => by
      have h := Nat.eq_of_beq_eq_true h
      subst h
      exact ⟨_, _, rfl⟩) (by decide +kernel) ⟨by decide, by decide, by decide +kernel⟩ ⟨by decide, by decide⟩
def R_depth (E : zk_E) (σ : zk_S) (sz : Nat) (r : Int32) (k : Int32) (σ2 : zk_S) (sz2 : Nat) : Prop := RD σ.1 σ.2.1 r (fun j => WO E σ sz σ2 sz2 k (g_deep σ.1 σ.2.1 j).toInt64 σ.1 σ.2.1) (WN E σ sz σ2 sz2 k 1)
def sp_L_depth (E : zk_E) : zk_Sp zk_S := fun av σ sz P PX => match av with
  | [.ref a, .int r, .ref o] => a = zk_ad E 0 ∧ o = zk_ad E 54 ∧ LI E sz σ ∧ ∀ k σ2 sz2, R_depth E σ sz r k σ2 sz2 → P (some (.int k)) σ2 sz2
  | _ => False
theorem spe_L_depth (E : zk_E) (a : Nat) (r : Int32) (o : Nat) (σ : zk_S) (sz : Nat) (P : zk_P zk_S) (PX : zk_X zk_S) : sp_L_depth E [.ref a, .int r, .ref o] σ sz P PX = (a = zk_ad E 0 ∧ o = zk_ad E 54 ∧ LI E sz σ ∧ ∀ k σ2 sz2, R_depth E σ sz r k σ2 sz2 → P (some (.int k)) σ2 sz2) := propext Iff.rfl
def C_L_depth (E : zk_E) : zk_Cl zk_S := zk_lka [(4, 2, 1, 6, zk_rv (zk_VT E) (fun ci => Nat.beq ci 9) (sp_X10_depth E))]
theorem r_L_depth (E : zk_E) (P : zk_P zk_S) (PX : zk_X zk_S) (K : Nat → zk_L → List Value → zk_W zk_S → Prop) : (∀ (n : Nat) (l0 l1 l3 : Option Value) (y2 : Value) (r : List Value) (σ : zk_S) (sz k c : Nat), zk_run E (zk_VT E) M_L_depth (C_L_depth E) P PX K (n + 1) 0 [l0, l1, some y2, l3] r (σ, sz, k, c) = (zk_isr y2 ∧ zk_run E (zk_VT E) M_L_depth (C_L_depth E) P PX K n 1 [l0, l1, some y2, l3] (y2 :: r) (σ, sz, k, c))) ∧
  (∀ (n : Nat) (l0 l1 l2 l3 : Option Value)  (r : List Value) (σ : zk_S) (sz k c : Nat), zk_run E (zk_VT E) M_L_depth (C_L_depth E) P PX K (n + 1) 1 [l0, l1, l2, l3] r (σ, sz, k, c) = zk_run E (zk_VT E) M_L_depth (C_L_depth E) P PX K n 2 [l0, l1, l2, l3] (.int (0) :: r) (σ, sz, k, c)) ∧
  (∀ (n : Nat) (l1 l2 l3 : Option Value) (y0 : Value) (r : List Value) (σ : zk_S) (sz k c : Nat), zk_run E (zk_VT E) M_L_depth (C_L_depth E) P PX K (n + 1) 2 [some y0, l1, l2, l3] r (σ, sz, k, c) = (zk_isr y0 ∧ zk_run E (zk_VT E) M_L_depth (C_L_depth E) P PX K n 3 [some y0, l1, l2, l3] (y0 :: r) (σ, sz, k, c))) ∧
  (∀ (n : Nat) (l0 l2 l3 : Option Value) (y1 : Int32) (r : List Value) (σ : zk_S) (sz k c : Nat), zk_run E (zk_VT E) M_L_depth (C_L_depth E) P PX K (n + 1) 3 [l0, some (.int y1), l2, l3] r (σ, sz, k, c) = zk_run E (zk_VT E) M_L_depth (C_L_depth E) P PX K n 4 [l0, some (.int y1), l2, l3] (.int y1 :: r) (σ, sz, k, c)) ∧
  (∀ (n : Nat) (l0 l1 l2 l3 : Option Value) (v0 : Value) (v1 : Value) (v2 : Value) (v3 : Value)  (σ : zk_S) (sz k c : Nat), zk_run E (zk_VT E) M_L_depth (C_L_depth E) P PX K (n + 1) 4 [l0, l1, l2, l3] [v0, v1, v2, v3] (σ, sz, k, c) = (k + 1 ≤ 1 ∧ c + 6 ≤ 6 ∧ (zk_rv (zk_VT E) (fun ci => Nat.beq ci 9) (sp_X10_depth E)) [v1, v0] σ sz (fun v s2 z2 => zk_run E (zk_VT E) M_L_depth (C_L_depth E) P PX K n 7 [l0, l1, l2, l3] (zk_psh v [v2, v3]) (s2, z2, k + 1, c + 6)) (fun X s2 z2 => (match (match Nat.beq 4 4 with
  | true => if X = "java/lang/IndexOutOfBoundsException" then some 12 else none
  | false => none : Option Nat) with
    | some hp => ∀ q : Nat, zk_run E (zk_VT E) M_L_depth (C_L_depth E) P PX K n hp [l0, l1, l2, l3] [.ref q] (s2, z2, k + 1, c + 6)
    | none => PX X s2 z2)))) ∧
  (∀ (n : Nat) (l0 l1 l2 l3 : Option Value) (x : Int32) (r : List Value) (σ : zk_S) (sz k c : Nat), zk_run E (zk_VT E) M_L_depth (C_L_depth E) P PX K (n + 1) 7 [l0, l1, l2, l3] (.int x :: r) (σ, sz, k, c) = zk_run E (zk_VT E) M_L_depth (C_L_depth E) P PX K n 8 [l0, l1, l2, l3] (.long (x.toInt64) :: r) (σ, sz, k, c)) ∧
  (∀ (n : Nat) (l0 l1 l2 l3 : Option Value) (a : Nat) (i : Int32) (x : Int64) (r : List Value) (σ : zk_S) (sz k c : Nat), zk_run E (zk_VT E) M_L_depth (C_L_depth E) P PX K (n + 1) 8 [l0, l1, l2, l3] (.long x :: .int i :: .ref a :: r) (σ, sz, k, c) = zk_lst (zk_view E σ a) (zk_ar E 2) i x (fun e => zk_wrok E σ a e ∧ zk_run E (zk_VT E) M_L_depth (C_L_depth E) P PX K n 9 [l0, l1, l2, l3] r (zk_wr E σ a e, sz, k, c))) ∧
  (∀ (n : Nat) (l0 l1 l2 l3 : Option Value)  (r : List Value) (σ : zk_S) (sz k c : Nat), zk_run E (zk_VT E) M_L_depth (C_L_depth E) P PX K (n + 1) 9 [l0, l1, l2, l3] r (σ, sz, k, c) = zk_run E (zk_VT E) M_L_depth (C_L_depth E) P PX K n 15 [l0, l1, l2, l3] r (σ, sz, k, c)) ∧
  (∀ (n : Nat) (l0 l1 l2 l3 : Option Value) (x : Value) (r : List Value) (σ : zk_S) (sz k c : Nat), zk_run E (zk_VT E) M_L_depth (C_L_depth E) P PX K (n + 1) 12 [l0, l1, l2, l3] (x :: r) (σ, sz, k, c) = (zk_isr x ∧ zk_run E (zk_VT E) M_L_depth (C_L_depth E) P PX K n 13 [l0, l1, zk_kl l2, some (x)] r (σ, sz, k, c))) ∧
  (∀ (n : Nat) (l0 l1 l2 l3 : Option Value)  (r : List Value) (σ : zk_S) (sz k c : Nat), zk_run E (zk_VT E) M_L_depth (C_L_depth E) P PX K (n + 1) 13 [l0, l1, l2, l3] r (σ, sz, k, c) = zk_run E (zk_VT E) M_L_depth (C_L_depth E) P PX K n 14 [l0, l1, l2, l3] (.int (1) :: r) (σ, sz, k, c)) ∧
  (∀ (n : Nat) (l0 l1 l2 l3 : Option Value) (x : Int32)  (σ : zk_S) (sz k c : Nat), zk_run E (zk_VT E) M_L_depth (C_L_depth E) P PX K (n + 1) 14 [l0, l1, l2, l3] [.int x] (σ, sz, k, c) = (zk_nok (some (.int)) x ∧ P (some (.int x)) σ sz ∧ k ≤ 1 ∧ c ≤ 6)) ∧
  (∀ (n : Nat) (l0 l1 l2 l3 : Option Value)  (r : List Value) (σ : zk_S) (sz k c : Nat), zk_run E (zk_VT E) M_L_depth (C_L_depth E) P PX K (n + 1) 15 [l0, l1, l2, l3] r (σ, sz, k, c) = zk_run E (zk_VT E) M_L_depth (C_L_depth E) P PX K n 16 [l0, l1, l2, l3] (.int (0) :: r) (σ, sz, k, c)) ∧
  (∀ (n : Nat) (l0 l1 l2 l3 : Option Value) (x : Int32)  (σ : zk_S) (sz k c : Nat), zk_run E (zk_VT E) M_L_depth (C_L_depth E) P PX K (n + 1) 16 [l0, l1, l2, l3] [.int x] (σ, sz, k, c) = (zk_nok (some (.int)) x ∧ P (some (.int x)) σ sz ∧ k ≤ 1 ∧ c ≤ 6)) ∧
  (∀ (n : Nat) (l0 l1 l2 l3 : Option Value) (r : List Value) (w : zk_W zk_S), zk_go E (zk_VT E) M_L_depth (C_L_depth E) P PX K n 0 [l0, l1, l2, l3] r w = zk_run E (zk_VT E) M_L_depth (C_L_depth E) P PX K (n + 1) 0 [l0, l1, l2, l3] r w) := ⟨by intros; rfl, by intros; rfl, by intros; rfl, by intros; rfl, by intros; rfl, by intros; rfl, by intros; rfl, by intros; rfl, by intros; rfl, by intros; rfl, by intros; rfl, by intros; rfl, by intros; rfl, by intros; rfl⟩
set_option maxHeartbeats 4000000 in
theorem vc_L_depth (E : zk_E) : zk_VCH E (zk_VT E) M_L_depth (C_L_depth E) 4 (sp_L_depth E) := by
  intro av σ sz P h
  obtain ⟨J, N, Q, O, U⟩ := σ
  unfold sp_L_depth at h
  split at h
  case h_2 => exact h.elim
  rename_i a r o
  refine ⟨Nat.le_of_ble_eq_true rfl, fun G hG => ?_⟩
  change G 0 [some (.ref a), some (.int r), some (.ref o), none] [] ((J, N, Q, O, U), sz, 0, 0)
  try dsimp only at h
  obtain ⟨rfl, rfl, hli, h⟩ := h
  have hms := hli.2.1.1
  unfold R_depth at h
  dsimp only at h
  (refine hG 900 _ _ _ _ ?_; simp only [r_L_depth, zk_kl_none, zk_kl_int, zk_kl_ref, zk_kl_null, zk_kl_long, zk_kl_rf, zk_isr_ref, zk_isr_null, zk_isr_rf9, zk_c1_int, zk_c1_ref, zk_c1_null, zk_c1_rf, zk_psh_some, zk_psh_none, zk_nok_int, zk_nok_bool0, zk_nok_bool1, zk_nok_b, zk_fok_0, zk_fok_1, zk_fok_2, zk_fok_n, zk_fok_rf, zb_f, zb_p, zb_i, zb_a, zb_s, zk_nth_0, zk_nth_s, zk_fld_o, zk_put_o, zk_rv_eq, zk_ri_eq, zk_is_o, List.mem_cons, List.not_mem_nil, or_false, false_or, or_true, true_or, and_true, true_and, not_false_iff, not_true_eq_false, true_implies, false_implies, imp_self, implies_true, forall_const, zk_lit, zk_uj_ap, zk_un_ap, zk_un_un, zk_uj_uj, Nat.reduceEqDiff, eq_self, zk_bq, Bool.true_or, Bool.false_or, Nat.le_refl, Nat.zero_add, Nat.add_zero, Nat.reduceAdd, Nat.reduceLeDiff, Nat.le_zero_eq, and_self, and_false, false_and, ite_true, ite_false, Nat.zero_le, List.length_cons, List.length_nil, Option.some.injEq, forall_eq', reduceCtorEq, spe_X10_depth])
  refine ⟨J, N, hli.2, ?_⟩
  refine RD.mk hms (fun j hj ej => ?_) (fun ej => ?_)
  · intro J2 N2 hke hcf
    simp only [r_L_depth, zk_kl_none, zk_kl_int, zk_kl_ref, zk_kl_null, zk_kl_long, zk_kl_rf, zk_isr_ref, zk_isr_null, zk_isr_rf9, zk_c1_int, zk_c1_ref, zk_c1_null, zk_c1_rf, zk_psh_some, zk_psh_none, zk_nok_int, zk_nok_bool0, zk_nok_bool1, zk_nok_b, zk_fok_0, zk_fok_1, zk_fok_2, zk_fok_n, zk_fok_rf, zb_f, zb_p, zb_i, zb_a, zb_s, zk_nth_0, zk_nth_s, zk_fld_o, zk_put_o, zk_rv_eq, zk_ri_eq, zk_is_o, List.mem_cons, List.not_mem_nil, or_false, false_or, or_true, true_or, and_true, true_and, not_false_iff, not_true_eq_false, true_implies, false_implies, imp_self, implies_true, forall_const, zk_lit, zk_uj_ap, zk_un_ap, zk_un_un, zk_uj_uj, Nat.reduceEqDiff, eq_self, zk_bq, Bool.true_or, Bool.false_or, Nat.le_refl, Nat.zero_add, Nat.add_zero, Nat.reduceAdd, Nat.reduceLeDiff, Nat.le_zero_eq, and_self, and_false, false_and, ite_true, ite_false, Nat.zero_le, List.length_cons, List.length_nil, Option.some.injEq, forall_eq', reduceCtorEq, hc_q, hc_s, hc_v, hc_i]
    exact h 0 _ _ (Or.inl ⟨j, hj, ej, ⟨⟨rfl, up_L U _⟩, LC.ke hli hke hcf (Nat.le_refl _)⟩⟩)
  · intro J2 N2 z2 hke hcf hz
    simp only [r_L_depth, zk_kl_none, zk_kl_int, zk_kl_ref, zk_kl_null, zk_kl_long, zk_kl_rf, zk_isr_ref, zk_isr_null, zk_isr_rf9, zk_c1_int, zk_c1_ref, zk_c1_null, zk_c1_rf, zk_psh_some, zk_psh_none, zk_nok_int, zk_nok_bool0, zk_nok_bool1, zk_nok_b, zk_fok_0, zk_fok_1, zk_fok_2, zk_fok_n, zk_fok_rf, zb_f, zb_p, zb_i, zb_a, zb_s, zk_nth_0, zk_nth_s, zk_fld_o, zk_put_o, zk_rv_eq, zk_ri_eq, zk_is_o, List.mem_cons, List.not_mem_nil, or_false, false_or, or_true, true_or, and_true, true_and, not_false_iff, not_true_eq_false, true_implies, false_implies, imp_self, implies_true, forall_const, zk_lit, zk_uj_ap, zk_un_ap, zk_un_un, zk_uj_uj, Nat.reduceEqDiff, eq_self, zk_bq, Bool.true_or, Bool.false_or, Nat.le_refl, Nat.zero_add, Nat.add_zero, Nat.reduceAdd, Nat.reduceLeDiff, Nat.le_zero_eq, and_self, and_false, false_and, ite_true, ite_false, Nat.zero_le, List.length_cons, List.length_nil, Option.some.injEq, forall_eq', reduceCtorEq, hc_q, hc_s, hc_v, hc_i]
    exact h 1 _ _ (Or.inr ⟨ej, ⟨rfl, LC.ke hli hke hcf hz⟩⟩)
def hh_L_depth : List (Nat × Nat × Nat × Nat) := [(0, 9, 12, 21)]
theorem HO_L_depth : zk_HO RL hh_L_depth M_L_depth := by
  intro pc X hp h
  have h2 : (match Nat.beq pc 4 with | true => (if X = "java/lang/IndexOutOfBoundsException" then some 12 else none) | false => none : Option Nat) = some hp := h
  clear h
  split at h2
  · rename_i e
    have e := Nat.eq_of_beq_eq_true e
    subst e
    by_cases e0 : X = "java/lang/IndexOutOfBoundsException"
    · subst e0
      rw [if_pos rfl] at h2
      cases h2
      exact ⟨[], ⟨0, 9, 12, 21⟩, [], rfl, fun _ h => absurd h List.not_mem_nil, by decide, by decide, rfl, "java/lang/IndexOutOfBoundsException", zk_wi 545 (by decide +kernel) rfl, zk_tb 556 (by decide +kernel)⟩
    rw [if_neg e0] at h2
    cases h2
  · cases h2
theorem ct_L_depth {l : Launch} (hl : l.stackTraces = false) (E : zk_E) : zk_CH l E (zk_VT E) yL_depth cL_depth 4 (some (.int)) hh_L_depth rm_L_depth (sp_L_depth E) := by
  refine zk_methH (M := M_L_depth) (C := C_L_depth E) (by decide +kernel) rfl HO_L_depth (zk_VT_ok E) MO_L_depth TO_L_depth (fun _ => rfl) ?_ (vc_L_depth E)
  exact fun p e s m args below meth c X pc n mc ms sp2 h => by
    have h2 := zk_lka_mem h
    simp only [List.mem_cons, List.not_mem_nil, or_false, Prod.mk.injEq] at h2
    rcases h2 with ⟨rfl, rfl, rfl, rfl, rfl⟩
    exact zk_coV (idx := 70) X (ct_X10_depth hl E) (List.forall_mem_cons.mpr ⟨zk_wi 857 (by decide +kernel) rfl, List.forall_mem_cons.mpr ⟨zk_wi 858 (by decide +kernel) rfl, List.forall_mem_cons.mpr ⟨zk_wi 859 (by decide +kernel) rfl, List.forall_mem_cons.mpr ⟨zk_wi 1 (by decide +kernel) rfl, List.forall_mem_cons.mpr ⟨zk_wi 860 (by decide +kernel) rfl, fun _ h => absurd h List.not_mem_nil⟩⟩⟩⟩⟩) (fun ci h => by
      have h := Nat.eq_of_beq_eq_true h
      subst h
      exact ⟨_, _, rfl⟩) (by decide +kernel) ⟨by decide, by decide, by decide +kernel⟩ ⟨by decide, by decide⟩
def R_way (E : zk_E) (σ : zk_S) (sz : Nat) (r : Int32) (q : Int32) (k : Int32) (σ2 : zk_S) (sz2 : Nat) : Prop := DRD σ.1 σ.2.1 r (fun j => WO E σ sz σ2 sz2 k (a_way σ.1 σ.2.1 (2 * j + q.toNatClampNeg)).toInt64 σ.1 σ.2.1) (WN E σ sz σ2 sz2 k 1)
def sp_L_way (E : zk_E) : zk_Sp zk_S := fun av σ sz P PX => match av with
  | [.ref a, .int r, .int q, .ref o] => a = zk_ad E 0 ∧ o = zk_ad E 54 ∧ (q = 0 ∨ q = 1) ∧ LI E sz σ ∧ ∀ k σ2 sz2, R_way E σ sz r q k σ2 sz2 → P (some (.int k)) σ2 sz2
  | _ => False
theorem spe_L_way (E : zk_E) (a : Nat) (r : Int32) (q : Int32) (o : Nat) (σ : zk_S) (sz : Nat) (P : zk_P zk_S) (PX : zk_X zk_S) : sp_L_way E [.ref a, .int r, .int q, .ref o] σ sz P PX = (a = zk_ad E 0 ∧ o = zk_ad E 54 ∧ (q = 0 ∨ q = 1) ∧ LI E sz σ ∧ ∀ k σ2 sz2, R_way E σ sz r q k σ2 sz2 → P (some (.int k)) σ2 sz2) := propext Iff.rfl
def C_L_way (E : zk_E) : zk_Cl zk_S := zk_lka [(5, 3, 1, 6, zk_rv (zk_VT E) (fun ci => Nat.beq ci 9) (sp_X10_way E))]
theorem r_L_way (E : zk_E) (P : zk_P zk_S) (PX : zk_X zk_S) (K : Nat → zk_L → List Value → zk_W zk_S → Prop) : (∀ (n : Nat) (l0 l1 l2 l4 : Option Value) (y3 : Value) (r : List Value) (σ : zk_S) (sz k c : Nat), zk_run E (zk_VT E) M_L_way (C_L_way E) P PX K (n + 1) 0 [l0, l1, l2, some y3, l4] r (σ, sz, k, c) = (zk_isr y3 ∧ zk_run E (zk_VT E) M_L_way (C_L_way E) P PX K n 1 [l0, l1, l2, some y3, l4] (y3 :: r) (σ, sz, k, c))) ∧
  (∀ (n : Nat) (l0 l1 l2 l3 l4 : Option Value)  (r : List Value) (σ : zk_S) (sz k c : Nat), zk_run E (zk_VT E) M_L_way (C_L_way E) P PX K (n + 1) 1 [l0, l1, l2, l3, l4] r (σ, sz, k, c) = zk_run E (zk_VT E) M_L_way (C_L_way E) P PX K n 2 [l0, l1, l2, l3, l4] (.int (0) :: r) (σ, sz, k, c)) ∧
  (∀ (n : Nat) (l1 l2 l3 l4 : Option Value) (y0 : Value) (r : List Value) (σ : zk_S) (sz k c : Nat), zk_run E (zk_VT E) M_L_way (C_L_way E) P PX K (n + 1) 2 [some y0, l1, l2, l3, l4] r (σ, sz, k, c) = (zk_isr y0 ∧ zk_run E (zk_VT E) M_L_way (C_L_way E) P PX K n 3 [some y0, l1, l2, l3, l4] (y0 :: r) (σ, sz, k, c))) ∧
  (∀ (n : Nat) (l0 l2 l3 l4 : Option Value) (y1 : Int32) (r : List Value) (σ : zk_S) (sz k c : Nat), zk_run E (zk_VT E) M_L_way (C_L_way E) P PX K (n + 1) 3 [l0, some (.int y1), l2, l3, l4] r (σ, sz, k, c) = zk_run E (zk_VT E) M_L_way (C_L_way E) P PX K n 4 [l0, some (.int y1), l2, l3, l4] (.int y1 :: r) (σ, sz, k, c)) ∧
  (∀ (n : Nat) (l0 l1 l3 l4 : Option Value) (y2 : Int32) (r : List Value) (σ : zk_S) (sz k c : Nat), zk_run E (zk_VT E) M_L_way (C_L_way E) P PX K (n + 1) 4 [l0, l1, some (.int y2), l3, l4] r (σ, sz, k, c) = zk_run E (zk_VT E) M_L_way (C_L_way E) P PX K n 5 [l0, l1, some (.int y2), l3, l4] (.int y2 :: r) (σ, sz, k, c)) ∧
  (∀ (n : Nat) (l0 l1 l2 l3 l4 : Option Value) (v0 : Value) (v1 : Value) (v2 : Value) (v3 : Value) (v4 : Value)  (σ : zk_S) (sz k c : Nat), zk_run E (zk_VT E) M_L_way (C_L_way E) P PX K (n + 1) 5 [l0, l1, l2, l3, l4] [v0, v1, v2, v3, v4] (σ, sz, k, c) = (k + 1 ≤ 1 ∧ c + 6 ≤ 6 ∧ (zk_rv (zk_VT E) (fun ci => Nat.beq ci 9) (sp_X10_way E)) [v2, v1, v0] σ sz (fun v s2 z2 => zk_run E (zk_VT E) M_L_way (C_L_way E) P PX K n 8 [l0, l1, l2, l3, l4] (zk_psh v [v3, v4]) (s2, z2, k + 1, c + 6)) (fun X s2 z2 => (match (match Nat.beq 5 5 with
  | true => if X = "java/lang/IndexOutOfBoundsException" then some 13 else none
  | false => none : Option Nat) with
    | some hp => ∀ q : Nat, zk_run E (zk_VT E) M_L_way (C_L_way E) P PX K n hp [l0, l1, l2, l3, l4] [.ref q] (s2, z2, k + 1, c + 6)
    | none => PX X s2 z2)))) ∧
  (∀ (n : Nat) (l0 l1 l2 l3 l4 : Option Value) (x : Int32) (r : List Value) (σ : zk_S) (sz k c : Nat), zk_run E (zk_VT E) M_L_way (C_L_way E) P PX K (n + 1) 8 [l0, l1, l2, l3, l4] (.int x :: r) (σ, sz, k, c) = zk_run E (zk_VT E) M_L_way (C_L_way E) P PX K n 9 [l0, l1, l2, l3, l4] (.long (x.toInt64) :: r) (σ, sz, k, c)) ∧
  (∀ (n : Nat) (l0 l1 l2 l3 l4 : Option Value) (a : Nat) (i : Int32) (x : Int64) (r : List Value) (σ : zk_S) (sz k c : Nat), zk_run E (zk_VT E) M_L_way (C_L_way E) P PX K (n + 1) 9 [l0, l1, l2, l3, l4] (.long x :: .int i :: .ref a :: r) (σ, sz, k, c) = zk_lst (zk_view E σ a) (zk_ar E 2) i x (fun e => zk_wrok E σ a e ∧ zk_run E (zk_VT E) M_L_way (C_L_way E) P PX K n 10 [l0, l1, l2, l3, l4] r (zk_wr E σ a e, sz, k, c))) ∧
  (∀ (n : Nat) (l0 l1 l2 l3 l4 : Option Value)  (r : List Value) (σ : zk_S) (sz k c : Nat), zk_run E (zk_VT E) M_L_way (C_L_way E) P PX K (n + 1) 10 [l0, l1, l2, l3, l4] r (σ, sz, k, c) = zk_run E (zk_VT E) M_L_way (C_L_way E) P PX K n 17 [l0, l1, l2, l3, l4] r (σ, sz, k, c)) ∧
  (∀ (n : Nat) (l0 l1 l2 l3 l4 : Option Value) (x : Value) (r : List Value) (σ : zk_S) (sz k c : Nat), zk_run E (zk_VT E) M_L_way (C_L_way E) P PX K (n + 1) 13 [l0, l1, l2, l3, l4] (x :: r) (σ, sz, k, c) = (zk_isr x ∧ zk_run E (zk_VT E) M_L_way (C_L_way E) P PX K n 15 [l0, l1, l2, zk_kl l3, some (x)] r (σ, sz, k, c))) ∧
  (∀ (n : Nat) (l0 l1 l2 l3 l4 : Option Value)  (r : List Value) (σ : zk_S) (sz k c : Nat), zk_run E (zk_VT E) M_L_way (C_L_way E) P PX K (n + 1) 15 [l0, l1, l2, l3, l4] r (σ, sz, k, c) = zk_run E (zk_VT E) M_L_way (C_L_way E) P PX K n 16 [l0, l1, l2, l3, l4] (.int (1) :: r) (σ, sz, k, c)) ∧
  (∀ (n : Nat) (l0 l1 l2 l3 l4 : Option Value) (x : Int32)  (σ : zk_S) (sz k c : Nat), zk_run E (zk_VT E) M_L_way (C_L_way E) P PX K (n + 1) 16 [l0, l1, l2, l3, l4] [.int x] (σ, sz, k, c) = (zk_nok (some (.int)) x ∧ P (some (.int x)) σ sz ∧ k ≤ 1 ∧ c ≤ 6)) ∧
  (∀ (n : Nat) (l0 l1 l2 l3 l4 : Option Value)  (r : List Value) (σ : zk_S) (sz k c : Nat), zk_run E (zk_VT E) M_L_way (C_L_way E) P PX K (n + 1) 17 [l0, l1, l2, l3, l4] r (σ, sz, k, c) = zk_run E (zk_VT E) M_L_way (C_L_way E) P PX K n 18 [l0, l1, l2, l3, l4] (.int (0) :: r) (σ, sz, k, c)) ∧
  (∀ (n : Nat) (l0 l1 l2 l3 l4 : Option Value) (x : Int32)  (σ : zk_S) (sz k c : Nat), zk_run E (zk_VT E) M_L_way (C_L_way E) P PX K (n + 1) 18 [l0, l1, l2, l3, l4] [.int x] (σ, sz, k, c) = (zk_nok (some (.int)) x ∧ P (some (.int x)) σ sz ∧ k ≤ 1 ∧ c ≤ 6)) ∧
  (∀ (n : Nat) (l0 l1 l2 l3 l4 : Option Value) (r : List Value) (w : zk_W zk_S), zk_go E (zk_VT E) M_L_way (C_L_way E) P PX K n 0 [l0, l1, l2, l3, l4] r w = zk_run E (zk_VT E) M_L_way (C_L_way E) P PX K (n + 1) 0 [l0, l1, l2, l3, l4] r w) := ⟨by intros; rfl, by intros; rfl, by intros; rfl, by intros; rfl, by intros; rfl, by intros; rfl, by intros; rfl, by intros; rfl, by intros; rfl, by intros; rfl, by intros; rfl, by intros; rfl, by intros; rfl, by intros; rfl, by intros; rfl⟩
set_option maxHeartbeats 4000000 in
theorem vc_L_way (E : zk_E) : zk_VCH E (zk_VT E) M_L_way (C_L_way E) 5 (sp_L_way E) := by
  intro av σ sz P h
  obtain ⟨J, N, Q, O, U⟩ := σ
  unfold sp_L_way at h
  split at h
  case h_2 => exact h.elim
  rename_i a r q o
  refine ⟨Nat.le_of_ble_eq_true rfl, fun G hG => ?_⟩
  change G 0 [some (.ref a), some (.int r), some (.int q), some (.ref o), none] [] ((J, N, Q, O, U), sz, 0, 0)
  try dsimp only at h
  obtain ⟨rfl, rfl, hq, hli, h⟩ := h
  have hms := hli.2.1.1
  unfold R_way at h
  dsimp only at h
  (refine hG 900 _ _ _ _ ?_; simp only [r_L_way, zk_kl_none, zk_kl_int, zk_kl_ref, zk_kl_null, zk_kl_long, zk_kl_rf, zk_isr_ref, zk_isr_null, zk_isr_rf9, zk_c1_int, zk_c1_ref, zk_c1_null, zk_c1_rf, zk_psh_some, zk_psh_none, zk_nok_int, zk_nok_bool0, zk_nok_bool1, zk_nok_b, zk_fok_0, zk_fok_1, zk_fok_2, zk_fok_n, zk_fok_rf, zb_f, zb_p, zb_i, zb_a, zb_s, zk_nth_0, zk_nth_s, zk_fld_o, zk_put_o, zk_rv_eq, zk_ri_eq, zk_is_o, List.mem_cons, List.not_mem_nil, or_false, false_or, or_true, true_or, and_true, true_and, not_false_iff, not_true_eq_false, true_implies, false_implies, imp_self, implies_true, forall_const, zk_lit, zk_uj_ap, zk_un_ap, zk_un_un, zk_uj_uj, Nat.reduceEqDiff, eq_self, zk_bq, Bool.true_or, Bool.false_or, Nat.le_refl, Nat.zero_add, Nat.add_zero, Nat.reduceAdd, Nat.reduceLeDiff, Nat.le_zero_eq, and_self, and_false, false_and, ite_true, ite_false, Nat.zero_le, List.length_cons, List.length_nil, Option.some.injEq, forall_eq', reduceCtorEq, spe_X10_way])
  refine ⟨hq, J, N, hli.2, ?_⟩
  refine DRD.mk hms (fun j hj ej => ?_) (fun ej => ?_)
  · intro J2 N2 hke hcf
    simp only [r_L_way, zk_kl_none, zk_kl_int, zk_kl_ref, zk_kl_null, zk_kl_long, zk_kl_rf, zk_isr_ref, zk_isr_null, zk_isr_rf9, zk_c1_int, zk_c1_ref, zk_c1_null, zk_c1_rf, zk_psh_some, zk_psh_none, zk_nok_int, zk_nok_bool0, zk_nok_bool1, zk_nok_b, zk_fok_0, zk_fok_1, zk_fok_2, zk_fok_n, zk_fok_rf, zb_f, zb_p, zb_i, zb_a, zb_s, zk_nth_0, zk_nth_s, zk_fld_o, zk_put_o, zk_rv_eq, zk_ri_eq, zk_is_o, List.mem_cons, List.not_mem_nil, or_false, false_or, or_true, true_or, and_true, true_and, not_false_iff, not_true_eq_false, true_implies, false_implies, imp_self, implies_true, forall_const, zk_lit, zk_uj_ap, zk_un_ap, zk_un_un, zk_uj_uj, Nat.reduceEqDiff, eq_self, zk_bq, Bool.true_or, Bool.false_or, Nat.le_refl, Nat.zero_add, Nat.add_zero, Nat.reduceAdd, Nat.reduceLeDiff, Nat.le_zero_eq, and_self, and_false, false_and, ite_true, ite_false, Nat.zero_le, List.length_cons, List.length_nil, Option.some.injEq, forall_eq', reduceCtorEq, hc_q, hc_s, hc_v, hc_i]
    exact h 0 _ _ (Or.inl ⟨j, hj, ej, ⟨⟨rfl, up_L U _⟩, LC.ke hli hke hcf (Nat.le_refl _)⟩⟩)
  · intro J2 N2 z2 hke hcf hz
    simp only [r_L_way, zk_kl_none, zk_kl_int, zk_kl_ref, zk_kl_null, zk_kl_long, zk_kl_rf, zk_isr_ref, zk_isr_null, zk_isr_rf9, zk_c1_int, zk_c1_ref, zk_c1_null, zk_c1_rf, zk_psh_some, zk_psh_none, zk_nok_int, zk_nok_bool0, zk_nok_bool1, zk_nok_b, zk_fok_0, zk_fok_1, zk_fok_2, zk_fok_n, zk_fok_rf, zb_f, zb_p, zb_i, zb_a, zb_s, zk_nth_0, zk_nth_s, zk_fld_o, zk_put_o, zk_rv_eq, zk_ri_eq, zk_is_o, List.mem_cons, List.not_mem_nil, or_false, false_or, or_true, true_or, and_true, true_and, not_false_iff, not_true_eq_false, true_implies, false_implies, imp_self, implies_true, forall_const, zk_lit, zk_uj_ap, zk_un_ap, zk_un_un, zk_uj_uj, Nat.reduceEqDiff, eq_self, zk_bq, Bool.true_or, Bool.false_or, Nat.le_refl, Nat.zero_add, Nat.add_zero, Nat.reduceAdd, Nat.reduceLeDiff, Nat.le_zero_eq, and_self, and_false, false_and, ite_true, ite_false, Nat.zero_le, List.length_cons, List.length_nil, Option.some.injEq, forall_eq', reduceCtorEq, hc_q, hc_s, hc_v, hc_i]
    exact h 1 _ _ (Or.inr ⟨ej, ⟨rfl, LC.ke hli hke hcf hz⟩⟩)
def hh_L_way : List (Nat × Nat × Nat × Nat) := [(0, 10, 13, 21)]
theorem HO_L_way : zk_HO RL hh_L_way M_L_way := by
  intro pc X hp h
  have h2 : (match Nat.beq pc 5 with | true => (if X = "java/lang/IndexOutOfBoundsException" then some 13 else none) | false => none : Option Nat) = some hp := h
  clear h
  split at h2
  · rename_i e
    have e := Nat.eq_of_beq_eq_true e
    subst e
    by_cases e0 : X = "java/lang/IndexOutOfBoundsException"
    · subst e0
      rw [if_pos rfl] at h2
      cases h2
      exact ⟨[], ⟨0, 10, 13, 21⟩, [], rfl, fun _ h => absurd h List.not_mem_nil, by decide, by decide, rfl, "java/lang/IndexOutOfBoundsException", zk_wi 545 (by decide +kernel) rfl, zk_tb 556 (by decide +kernel)⟩
    rw [if_neg e0] at h2
    cases h2
  · cases h2
theorem ct_L_way {l : Launch} (hl : l.stackTraces = false) (E : zk_E) : zk_CH l E (zk_VT E) yL_way cL_way 5 (some (.int)) hh_L_way rm_L_way (sp_L_way E) := by
  refine zk_methH (M := M_L_way) (C := C_L_way E) (by decide +kernel) rfl HO_L_way (zk_VT_ok E) MO_L_way TO_L_way (fun _ => rfl) ?_ (vc_L_way E)
  exact fun p e s m args below meth c X pc n mc ms sp2 h => by
    have h2 := zk_lka_mem h
    simp only [List.mem_cons, List.not_mem_nil, or_false, Prod.mk.injEq] at h2
    rcases h2 with ⟨rfl, rfl, rfl, rfl, rfl⟩
    exact zk_coV (idx := 73) X (ct_X10_way hl E) (List.forall_mem_cons.mpr ⟨zk_wi 864 (by decide +kernel) rfl, List.forall_mem_cons.mpr ⟨zk_wi 865 (by decide +kernel) rfl, List.forall_mem_cons.mpr ⟨zk_wi 866 (by decide +kernel) rfl, List.forall_mem_cons.mpr ⟨zk_wi 1 (by decide +kernel) rfl, List.forall_mem_cons.mpr ⟨zk_wi 867 (by decide +kernel) rfl, fun _ h => absurd h List.not_mem_nil⟩⟩⟩⟩⟩) (fun ci h => by
      have h := Nat.eq_of_beq_eq_true h
      subst h
      exact ⟨_, _, rfl⟩) (by decide +kernel) ⟨by decide, by decide, by decide +kernel⟩ ⟨by decide, by decide⟩
def R_load (E : zk_E) (σ : zk_S) (sz : Nat) (r : Int32) (k : Int32) (σ2 : zk_S) (sz2 : Nat) : Prop := DRD σ.1 σ.2.1 r (fun j => WO E σ sz σ2 sz2 k (a_load σ.1 σ.2.1 j).toInt64 σ.1 σ.2.1) (WN E σ sz σ2 sz2 k 1)
def sp_L_load (E : zk_E) : zk_Sp zk_S := fun av σ sz P PX => match av with
  | [.ref a, .int r, .ref o] => a = zk_ad E 0 ∧ o = zk_ad E 54 ∧ LI E sz σ ∧ ∀ k σ2 sz2, R_load E σ sz r k σ2 sz2 → P (some (.int k)) σ2 sz2
  | _ => False
theorem spe_L_load (E : zk_E) (a : Nat) (r : Int32) (o : Nat) (σ : zk_S) (sz : Nat) (P : zk_P zk_S) (PX : zk_X zk_S) : sp_L_load E [.ref a, .int r, .ref o] σ sz P PX = (a = zk_ad E 0 ∧ o = zk_ad E 54 ∧ LI E sz σ ∧ ∀ k σ2 sz2, R_load E σ sz r k σ2 sz2 → P (some (.int k)) σ2 sz2) := propext Iff.rfl
def C_L_load (E : zk_E) : zk_Cl zk_S := zk_lka [(4, 2, 1, 6, zk_rv (zk_VT E) (fun ci => Nat.beq ci 9) (sp_X10_load E))]
theorem r_L_load (E : zk_E) (P : zk_P zk_S) (PX : zk_X zk_S) (K : Nat → zk_L → List Value → zk_W zk_S → Prop) : (∀ (n : Nat) (l0 l1 l3 : Option Value) (y2 : Value) (r : List Value) (σ : zk_S) (sz k c : Nat), zk_run E (zk_VT E) M_L_load (C_L_load E) P PX K (n + 1) 0 [l0, l1, some y2, l3] r (σ, sz, k, c) = (zk_isr y2 ∧ zk_run E (zk_VT E) M_L_load (C_L_load E) P PX K n 1 [l0, l1, some y2, l3] (y2 :: r) (σ, sz, k, c))) ∧
  (∀ (n : Nat) (l0 l1 l2 l3 : Option Value)  (r : List Value) (σ : zk_S) (sz k c : Nat), zk_run E (zk_VT E) M_L_load (C_L_load E) P PX K (n + 1) 1 [l0, l1, l2, l3] r (σ, sz, k, c) = zk_run E (zk_VT E) M_L_load (C_L_load E) P PX K n 2 [l0, l1, l2, l3] (.int (0) :: r) (σ, sz, k, c)) ∧
  (∀ (n : Nat) (l1 l2 l3 : Option Value) (y0 : Value) (r : List Value) (σ : zk_S) (sz k c : Nat), zk_run E (zk_VT E) M_L_load (C_L_load E) P PX K (n + 1) 2 [some y0, l1, l2, l3] r (σ, sz, k, c) = (zk_isr y0 ∧ zk_run E (zk_VT E) M_L_load (C_L_load E) P PX K n 3 [some y0, l1, l2, l3] (y0 :: r) (σ, sz, k, c))) ∧
  (∀ (n : Nat) (l0 l2 l3 : Option Value) (y1 : Int32) (r : List Value) (σ : zk_S) (sz k c : Nat), zk_run E (zk_VT E) M_L_load (C_L_load E) P PX K (n + 1) 3 [l0, some (.int y1), l2, l3] r (σ, sz, k, c) = zk_run E (zk_VT E) M_L_load (C_L_load E) P PX K n 4 [l0, some (.int y1), l2, l3] (.int y1 :: r) (σ, sz, k, c)) ∧
  (∀ (n : Nat) (l0 l1 l2 l3 : Option Value) (v0 : Value) (v1 : Value) (v2 : Value) (v3 : Value)  (σ : zk_S) (sz k c : Nat), zk_run E (zk_VT E) M_L_load (C_L_load E) P PX K (n + 1) 4 [l0, l1, l2, l3] [v0, v1, v2, v3] (σ, sz, k, c) = (k + 1 ≤ 1 ∧ c + 6 ≤ 6 ∧ (zk_rv (zk_VT E) (fun ci => Nat.beq ci 9) (sp_X10_load E)) [v1, v0] σ sz (fun v s2 z2 => zk_run E (zk_VT E) M_L_load (C_L_load E) P PX K n 7 [l0, l1, l2, l3] (zk_psh v [v2, v3]) (s2, z2, k + 1, c + 6)) (fun X s2 z2 => (match (match Nat.beq 4 4 with
  | true => if X = "java/lang/IndexOutOfBoundsException" then some 12 else none
  | false => none : Option Nat) with
    | some hp => ∀ q : Nat, zk_run E (zk_VT E) M_L_load (C_L_load E) P PX K n hp [l0, l1, l2, l3] [.ref q] (s2, z2, k + 1, c + 6)
    | none => PX X s2 z2)))) ∧
  (∀ (n : Nat) (l0 l1 l2 l3 : Option Value) (x : Int32) (r : List Value) (σ : zk_S) (sz k c : Nat), zk_run E (zk_VT E) M_L_load (C_L_load E) P PX K (n + 1) 7 [l0, l1, l2, l3] (.int x :: r) (σ, sz, k, c) = zk_run E (zk_VT E) M_L_load (C_L_load E) P PX K n 8 [l0, l1, l2, l3] (.long (x.toInt64) :: r) (σ, sz, k, c)) ∧
  (∀ (n : Nat) (l0 l1 l2 l3 : Option Value) (a : Nat) (i : Int32) (x : Int64) (r : List Value) (σ : zk_S) (sz k c : Nat), zk_run E (zk_VT E) M_L_load (C_L_load E) P PX K (n + 1) 8 [l0, l1, l2, l3] (.long x :: .int i :: .ref a :: r) (σ, sz, k, c) = zk_lst (zk_view E σ a) (zk_ar E 2) i x (fun e => zk_wrok E σ a e ∧ zk_run E (zk_VT E) M_L_load (C_L_load E) P PX K n 9 [l0, l1, l2, l3] r (zk_wr E σ a e, sz, k, c))) ∧
  (∀ (n : Nat) (l0 l1 l2 l3 : Option Value)  (r : List Value) (σ : zk_S) (sz k c : Nat), zk_run E (zk_VT E) M_L_load (C_L_load E) P PX K (n + 1) 9 [l0, l1, l2, l3] r (σ, sz, k, c) = zk_run E (zk_VT E) M_L_load (C_L_load E) P PX K n 15 [l0, l1, l2, l3] r (σ, sz, k, c)) ∧
  (∀ (n : Nat) (l0 l1 l2 l3 : Option Value) (x : Value) (r : List Value) (σ : zk_S) (sz k c : Nat), zk_run E (zk_VT E) M_L_load (C_L_load E) P PX K (n + 1) 12 [l0, l1, l2, l3] (x :: r) (σ, sz, k, c) = (zk_isr x ∧ zk_run E (zk_VT E) M_L_load (C_L_load E) P PX K n 13 [l0, l1, zk_kl l2, some (x)] r (σ, sz, k, c))) ∧
  (∀ (n : Nat) (l0 l1 l2 l3 : Option Value)  (r : List Value) (σ : zk_S) (sz k c : Nat), zk_run E (zk_VT E) M_L_load (C_L_load E) P PX K (n + 1) 13 [l0, l1, l2, l3] r (σ, sz, k, c) = zk_run E (zk_VT E) M_L_load (C_L_load E) P PX K n 14 [l0, l1, l2, l3] (.int (1) :: r) (σ, sz, k, c)) ∧
  (∀ (n : Nat) (l0 l1 l2 l3 : Option Value) (x : Int32)  (σ : zk_S) (sz k c : Nat), zk_run E (zk_VT E) M_L_load (C_L_load E) P PX K (n + 1) 14 [l0, l1, l2, l3] [.int x] (σ, sz, k, c) = (zk_nok (some (.int)) x ∧ P (some (.int x)) σ sz ∧ k ≤ 1 ∧ c ≤ 6)) ∧
  (∀ (n : Nat) (l0 l1 l2 l3 : Option Value)  (r : List Value) (σ : zk_S) (sz k c : Nat), zk_run E (zk_VT E) M_L_load (C_L_load E) P PX K (n + 1) 15 [l0, l1, l2, l3] r (σ, sz, k, c) = zk_run E (zk_VT E) M_L_load (C_L_load E) P PX K n 16 [l0, l1, l2, l3] (.int (0) :: r) (σ, sz, k, c)) ∧
  (∀ (n : Nat) (l0 l1 l2 l3 : Option Value) (x : Int32)  (σ : zk_S) (sz k c : Nat), zk_run E (zk_VT E) M_L_load (C_L_load E) P PX K (n + 1) 16 [l0, l1, l2, l3] [.int x] (σ, sz, k, c) = (zk_nok (some (.int)) x ∧ P (some (.int x)) σ sz ∧ k ≤ 1 ∧ c ≤ 6)) ∧
  (∀ (n : Nat) (l0 l1 l2 l3 : Option Value) (r : List Value) (w : zk_W zk_S), zk_go E (zk_VT E) M_L_load (C_L_load E) P PX K n 0 [l0, l1, l2, l3] r w = zk_run E (zk_VT E) M_L_load (C_L_load E) P PX K (n + 1) 0 [l0, l1, l2, l3] r w) := ⟨by intros; rfl, by intros; rfl, by intros; rfl, by intros; rfl, by intros; rfl, by intros; rfl, by intros; rfl, by intros; rfl, by intros; rfl, by intros; rfl, by intros; rfl, by intros; rfl, by intros; rfl, by intros; rfl⟩
set_option maxHeartbeats 4000000 in
theorem vc_L_load (E : zk_E) : zk_VCH E (zk_VT E) M_L_load (C_L_load E) 4 (sp_L_load E) := by
  intro av σ sz P h
  obtain ⟨J, N, Q, O, U⟩ := σ
  unfold sp_L_load at h
  split at h
  case h_2 => exact h.elim
  rename_i a r o
  refine ⟨Nat.le_of_ble_eq_true rfl, fun G hG => ?_⟩
  change G 0 [some (.ref a), some (.int r), some (.ref o), none] [] ((J, N, Q, O, U), sz, 0, 0)
  try dsimp only at h
  obtain ⟨rfl, rfl, hli, h⟩ := h
  have hms := hli.2.1.1
  unfold R_load at h
  dsimp only at h
  (refine hG 900 _ _ _ _ ?_; simp only [r_L_load, zk_kl_none, zk_kl_int, zk_kl_ref, zk_kl_null, zk_kl_long, zk_kl_rf, zk_isr_ref, zk_isr_null, zk_isr_rf9, zk_c1_int, zk_c1_ref, zk_c1_null, zk_c1_rf, zk_psh_some, zk_psh_none, zk_nok_int, zk_nok_bool0, zk_nok_bool1, zk_nok_b, zk_fok_0, zk_fok_1, zk_fok_2, zk_fok_n, zk_fok_rf, zb_f, zb_p, zb_i, zb_a, zb_s, zk_nth_0, zk_nth_s, zk_fld_o, zk_put_o, zk_rv_eq, zk_ri_eq, zk_is_o, List.mem_cons, List.not_mem_nil, or_false, false_or, or_true, true_or, and_true, true_and, not_false_iff, not_true_eq_false, true_implies, false_implies, imp_self, implies_true, forall_const, zk_lit, zk_uj_ap, zk_un_ap, zk_un_un, zk_uj_uj, Nat.reduceEqDiff, eq_self, zk_bq, Bool.true_or, Bool.false_or, Nat.le_refl, Nat.zero_add, Nat.add_zero, Nat.reduceAdd, Nat.reduceLeDiff, Nat.le_zero_eq, and_self, and_false, false_and, ite_true, ite_false, Nat.zero_le, List.length_cons, List.length_nil, Option.some.injEq, forall_eq', reduceCtorEq, spe_X10_load])
  refine ⟨J, N, hli.2, ?_⟩
  refine DRD.mk hms (fun j hj ej => ?_) (fun ej => ?_)
  · intro J2 N2 hke hcf
    simp only [r_L_load, zk_kl_none, zk_kl_int, zk_kl_ref, zk_kl_null, zk_kl_long, zk_kl_rf, zk_isr_ref, zk_isr_null, zk_isr_rf9, zk_c1_int, zk_c1_ref, zk_c1_null, zk_c1_rf, zk_psh_some, zk_psh_none, zk_nok_int, zk_nok_bool0, zk_nok_bool1, zk_nok_b, zk_fok_0, zk_fok_1, zk_fok_2, zk_fok_n, zk_fok_rf, zb_f, zb_p, zb_i, zb_a, zb_s, zk_nth_0, zk_nth_s, zk_fld_o, zk_put_o, zk_rv_eq, zk_ri_eq, zk_is_o, List.mem_cons, List.not_mem_nil, or_false, false_or, or_true, true_or, and_true, true_and, not_false_iff, not_true_eq_false, true_implies, false_implies, imp_self, implies_true, forall_const, zk_lit, zk_uj_ap, zk_un_ap, zk_un_un, zk_uj_uj, Nat.reduceEqDiff, eq_self, zk_bq, Bool.true_or, Bool.false_or, Nat.le_refl, Nat.zero_add, Nat.add_zero, Nat.reduceAdd, Nat.reduceLeDiff, Nat.le_zero_eq, and_self, and_false, false_and, ite_true, ite_false, Nat.zero_le, List.length_cons, List.length_nil, Option.some.injEq, forall_eq', reduceCtorEq, hc_q, hc_s, hc_v, hc_i]
    exact h 0 _ _ (Or.inl ⟨j, hj, ej, ⟨⟨rfl, up_L U _⟩, LC.ke hli hke hcf (Nat.le_refl _)⟩⟩)
  · intro J2 N2 z2 hke hcf hz
    simp only [r_L_load, zk_kl_none, zk_kl_int, zk_kl_ref, zk_kl_null, zk_kl_long, zk_kl_rf, zk_isr_ref, zk_isr_null, zk_isr_rf9, zk_c1_int, zk_c1_ref, zk_c1_null, zk_c1_rf, zk_psh_some, zk_psh_none, zk_nok_int, zk_nok_bool0, zk_nok_bool1, zk_nok_b, zk_fok_0, zk_fok_1, zk_fok_2, zk_fok_n, zk_fok_rf, zb_f, zb_p, zb_i, zb_a, zb_s, zk_nth_0, zk_nth_s, zk_fld_o, zk_put_o, zk_rv_eq, zk_ri_eq, zk_is_o, List.mem_cons, List.not_mem_nil, or_false, false_or, or_true, true_or, and_true, true_and, not_false_iff, not_true_eq_false, true_implies, false_implies, imp_self, implies_true, forall_const, zk_lit, zk_uj_ap, zk_un_ap, zk_un_un, zk_uj_uj, Nat.reduceEqDiff, eq_self, zk_bq, Bool.true_or, Bool.false_or, Nat.le_refl, Nat.zero_add, Nat.add_zero, Nat.reduceAdd, Nat.reduceLeDiff, Nat.le_zero_eq, and_self, and_false, false_and, ite_true, ite_false, Nat.zero_le, List.length_cons, List.length_nil, Option.some.injEq, forall_eq', reduceCtorEq, hc_q, hc_s, hc_v, hc_i]
    exact h 1 _ _ (Or.inr ⟨ej, ⟨rfl, LC.ke hli hke hcf hz⟩⟩)
def hh_L_load : List (Nat × Nat × Nat × Nat) := [(0, 9, 12, 21)]
theorem HO_L_load : zk_HO RL hh_L_load M_L_load := by
  intro pc X hp h
  have h2 : (match Nat.beq pc 4 with | true => (if X = "java/lang/IndexOutOfBoundsException" then some 12 else none) | false => none : Option Nat) = some hp := h
  clear h
  split at h2
  · rename_i e
    have e := Nat.eq_of_beq_eq_true e
    subst e
    by_cases e0 : X = "java/lang/IndexOutOfBoundsException"
    · subst e0
      rw [if_pos rfl] at h2
      cases h2
      exact ⟨[], ⟨0, 9, 12, 21⟩, [], rfl, fun _ h => absurd h List.not_mem_nil, by decide, by decide, rfl, "java/lang/IndexOutOfBoundsException", zk_wi 545 (by decide +kernel) rfl, zk_tb 556 (by decide +kernel)⟩
    rw [if_neg e0] at h2
    cases h2
  · cases h2
theorem ct_L_load {l : Launch} (hl : l.stackTraces = false) (E : zk_E) : zk_CH l E (zk_VT E) yL_load cL_load 4 (some (.int)) hh_L_load rm_L_load (sp_L_load E) := by
  refine zk_methH (M := M_L_load) (C := C_L_load E) (by decide +kernel) rfl HO_L_load (zk_VT_ok E) MO_L_load TO_L_load (fun _ => rfl) ?_ (vc_L_load E)
  exact fun p e s m args below meth c X pc n mc ms sp2 h => by
    have h2 := zk_lka_mem h
    simp only [List.mem_cons, List.not_mem_nil, or_false, Prod.mk.injEq] at h2
    rcases h2 with ⟨rfl, rfl, rfl, rfl, rfl⟩
    exact zk_coV (idx := 77) X (ct_X10_load hl E) (List.forall_mem_cons.mpr ⟨zk_wi 871 (by decide +kernel) rfl, List.forall_mem_cons.mpr ⟨zk_wi 872 (by decide +kernel) rfl, List.forall_mem_cons.mpr ⟨zk_wi 873 (by decide +kernel) rfl, List.forall_mem_cons.mpr ⟨zk_wi 1 (by decide +kernel) rfl, List.forall_mem_cons.mpr ⟨zk_wi 874 (by decide +kernel) rfl, fun _ h => absurd h List.not_mem_nil⟩⟩⟩⟩⟩) (fun ci h => by
      have h := Nat.eq_of_beq_eq_true h
      subst h
      exact ⟨_, _, rfl⟩) (by decide +kernel) ⟨by decide, by decide, by decide +kernel⟩ ⟨by decide, by decide⟩
def R_stairsLoad (E : zk_E) (σ : zk_S) (sz : Nat) (r : Int32) (k : Int32) (σ2 : zk_S) (sz2 : Nat) : Prop := TRD σ.1 σ.2.1 r (fun j => WO E σ sz σ2 sz2 k (a_load σ.1 σ.2.1 (40 + j)).toInt64 σ.1 σ.2.1) (WN E σ sz σ2 sz2 k 1)
def sp_L_stairsLoad (E : zk_E) : zk_Sp zk_S := fun av σ sz P PX => match av with
  | [.ref a, .int r, .ref o] => a = zk_ad E 0 ∧ o = zk_ad E 54 ∧ LI E sz σ ∧ ∀ k σ2 sz2, R_stairsLoad E σ sz r k σ2 sz2 → P (some (.int k)) σ2 sz2
  | _ => False
theorem spe_L_stairsLoad (E : zk_E) (a : Nat) (r : Int32) (o : Nat) (σ : zk_S) (sz : Nat) (P : zk_P zk_S) (PX : zk_X zk_S) : sp_L_stairsLoad E [.ref a, .int r, .ref o] σ sz P PX = (a = zk_ad E 0 ∧ o = zk_ad E 54 ∧ LI E sz σ ∧ ∀ k σ2 sz2, R_stairsLoad E σ sz r k σ2 sz2 → P (some (.int k)) σ2 sz2) := propext Iff.rfl
def C_L_stairsLoad (E : zk_E) : zk_Cl zk_S := zk_lka [(4, 2, 1, 6, zk_rv (zk_VT E) (fun ci => Nat.beq ci 9) (sp_X10_stairsLoad E))]
theorem r_L_stairsLoad (E : zk_E) (P : zk_P zk_S) (PX : zk_X zk_S) (K : Nat → zk_L → List Value → zk_W zk_S → Prop) : (∀ (n : Nat) (l0 l1 l3 : Option Value) (y2 : Value) (r : List Value) (σ : zk_S) (sz k c : Nat), zk_run E (zk_VT E) M_L_stairsLoad (C_L_stairsLoad E) P PX K (n + 1) 0 [l0, l1, some y2, l3] r (σ, sz, k, c) = (zk_isr y2 ∧ zk_run E (zk_VT E) M_L_stairsLoad (C_L_stairsLoad E) P PX K n 1 [l0, l1, some y2, l3] (y2 :: r) (σ, sz, k, c))) ∧
  (∀ (n : Nat) (l0 l1 l2 l3 : Option Value)  (r : List Value) (σ : zk_S) (sz k c : Nat), zk_run E (zk_VT E) M_L_stairsLoad (C_L_stairsLoad E) P PX K (n + 1) 1 [l0, l1, l2, l3] r (σ, sz, k, c) = zk_run E (zk_VT E) M_L_stairsLoad (C_L_stairsLoad E) P PX K n 2 [l0, l1, l2, l3] (.int (0) :: r) (σ, sz, k, c)) ∧
  (∀ (n : Nat) (l1 l2 l3 : Option Value) (y0 : Value) (r : List Value) (σ : zk_S) (sz k c : Nat), zk_run E (zk_VT E) M_L_stairsLoad (C_L_stairsLoad E) P PX K (n + 1) 2 [some y0, l1, l2, l3] r (σ, sz, k, c) = (zk_isr y0 ∧ zk_run E (zk_VT E) M_L_stairsLoad (C_L_stairsLoad E) P PX K n 3 [some y0, l1, l2, l3] (y0 :: r) (σ, sz, k, c))) ∧
  (∀ (n : Nat) (l0 l2 l3 : Option Value) (y1 : Int32) (r : List Value) (σ : zk_S) (sz k c : Nat), zk_run E (zk_VT E) M_L_stairsLoad (C_L_stairsLoad E) P PX K (n + 1) 3 [l0, some (.int y1), l2, l3] r (σ, sz, k, c) = zk_run E (zk_VT E) M_L_stairsLoad (C_L_stairsLoad E) P PX K n 4 [l0, some (.int y1), l2, l3] (.int y1 :: r) (σ, sz, k, c)) ∧
  (∀ (n : Nat) (l0 l1 l2 l3 : Option Value) (v0 : Value) (v1 : Value) (v2 : Value) (v3 : Value)  (σ : zk_S) (sz k c : Nat), zk_run E (zk_VT E) M_L_stairsLoad (C_L_stairsLoad E) P PX K (n + 1) 4 [l0, l1, l2, l3] [v0, v1, v2, v3] (σ, sz, k, c) = (k + 1 ≤ 1 ∧ c + 6 ≤ 6 ∧ (zk_rv (zk_VT E) (fun ci => Nat.beq ci 9) (sp_X10_stairsLoad E)) [v1, v0] σ sz (fun v s2 z2 => zk_run E (zk_VT E) M_L_stairsLoad (C_L_stairsLoad E) P PX K n 7 [l0, l1, l2, l3] (zk_psh v [v2, v3]) (s2, z2, k + 1, c + 6)) (fun X s2 z2 => (match (match Nat.beq 4 4 with
  | true => if X = "java/lang/IndexOutOfBoundsException" then some 12 else none
  | false => none : Option Nat) with
    | some hp => ∀ q : Nat, zk_run E (zk_VT E) M_L_stairsLoad (C_L_stairsLoad E) P PX K n hp [l0, l1, l2, l3] [.ref q] (s2, z2, k + 1, c + 6)
    | none => PX X s2 z2)))) ∧
  (∀ (n : Nat) (l0 l1 l2 l3 : Option Value) (x : Int32) (r : List Value) (σ : zk_S) (sz k c : Nat), zk_run E (zk_VT E) M_L_stairsLoad (C_L_stairsLoad E) P PX K (n + 1) 7 [l0, l1, l2, l3] (.int x :: r) (σ, sz, k, c) = zk_run E (zk_VT E) M_L_stairsLoad (C_L_stairsLoad E) P PX K n 8 [l0, l1, l2, l3] (.long (x.toInt64) :: r) (σ, sz, k, c)) ∧
  (∀ (n : Nat) (l0 l1 l2 l3 : Option Value) (a : Nat) (i : Int32) (x : Int64) (r : List Value) (σ : zk_S) (sz k c : Nat), zk_run E (zk_VT E) M_L_stairsLoad (C_L_stairsLoad E) P PX K (n + 1) 8 [l0, l1, l2, l3] (.long x :: .int i :: .ref a :: r) (σ, sz, k, c) = zk_lst (zk_view E σ a) (zk_ar E 2) i x (fun e => zk_wrok E σ a e ∧ zk_run E (zk_VT E) M_L_stairsLoad (C_L_stairsLoad E) P PX K n 9 [l0, l1, l2, l3] r (zk_wr E σ a e, sz, k, c))) ∧
  (∀ (n : Nat) (l0 l1 l2 l3 : Option Value)  (r : List Value) (σ : zk_S) (sz k c : Nat), zk_run E (zk_VT E) M_L_stairsLoad (C_L_stairsLoad E) P PX K (n + 1) 9 [l0, l1, l2, l3] r (σ, sz, k, c) = zk_run E (zk_VT E) M_L_stairsLoad (C_L_stairsLoad E) P PX K n 15 [l0, l1, l2, l3] r (σ, sz, k, c)) ∧
  (∀ (n : Nat) (l0 l1 l2 l3 : Option Value) (x : Value) (r : List Value) (σ : zk_S) (sz k c : Nat), zk_run E (zk_VT E) M_L_stairsLoad (C_L_stairsLoad E) P PX K (n + 1) 12 [l0, l1, l2, l3] (x :: r) (σ, sz, k, c) = (zk_isr x ∧ zk_run E (zk_VT E) M_L_stairsLoad (C_L_stairsLoad E) P PX K n 13 [l0, l1, zk_kl l2, some (x)] r (σ, sz, k, c))) ∧
  (∀ (n : Nat) (l0 l1 l2 l3 : Option Value)  (r : List Value) (σ : zk_S) (sz k c : Nat), zk_run E (zk_VT E) M_L_stairsLoad (C_L_stairsLoad E) P PX K (n + 1) 13 [l0, l1, l2, l3] r (σ, sz, k, c) = zk_run E (zk_VT E) M_L_stairsLoad (C_L_stairsLoad E) P PX K n 14 [l0, l1, l2, l3] (.int (1) :: r) (σ, sz, k, c)) ∧
  (∀ (n : Nat) (l0 l1 l2 l3 : Option Value) (x : Int32)  (σ : zk_S) (sz k c : Nat), zk_run E (zk_VT E) M_L_stairsLoad (C_L_stairsLoad E) P PX K (n + 1) 14 [l0, l1, l2, l3] [.int x] (σ, sz, k, c) = (zk_nok (some (.int)) x ∧ P (some (.int x)) σ sz ∧ k ≤ 1 ∧ c ≤ 6)) ∧
  (∀ (n : Nat) (l0 l1 l2 l3 : Option Value)  (r : List Value) (σ : zk_S) (sz k c : Nat), zk_run E (zk_VT E) M_L_stairsLoad (C_L_stairsLoad E) P PX K (n + 1) 15 [l0, l1, l2, l3] r (σ, sz, k, c) = zk_run E (zk_VT E) M_L_stairsLoad (C_L_stairsLoad E) P PX K n 16 [l0, l1, l2, l3] (.int (0) :: r) (σ, sz, k, c)) ∧
  (∀ (n : Nat) (l0 l1 l2 l3 : Option Value) (x : Int32)  (σ : zk_S) (sz k c : Nat), zk_run E (zk_VT E) M_L_stairsLoad (C_L_stairsLoad E) P PX K (n + 1) 16 [l0, l1, l2, l3] [.int x] (σ, sz, k, c) = (zk_nok (some (.int)) x ∧ P (some (.int x)) σ sz ∧ k ≤ 1 ∧ c ≤ 6)) ∧
  (∀ (n : Nat) (l0 l1 l2 l3 : Option Value) (r : List Value) (w : zk_W zk_S), zk_go E (zk_VT E) M_L_stairsLoad (C_L_stairsLoad E) P PX K n 0 [l0, l1, l2, l3] r w = zk_run E (zk_VT E) M_L_stairsLoad (C_L_stairsLoad E) P PX K (n + 1) 0 [l0, l1, l2, l3] r w) := ⟨by intros; rfl, by intros; rfl, by intros; rfl, by intros; rfl, by intros; rfl, by intros; rfl, by intros; rfl, by intros; rfl, by intros; rfl, by intros; rfl, by intros; rfl, by intros; rfl, by intros; rfl, by intros; rfl⟩
set_option maxHeartbeats 4000000 in
theorem vc_L_stairsLoad (E : zk_E) : zk_VCH E (zk_VT E) M_L_stairsLoad (C_L_stairsLoad E) 4 (sp_L_stairsLoad E) := by
  intro av σ sz P h
  obtain ⟨J, N, Q, O, U⟩ := σ
  unfold sp_L_stairsLoad at h
  split at h
  case h_2 => exact h.elim
  rename_i a r o
  refine ⟨Nat.le_of_ble_eq_true rfl, fun G hG => ?_⟩
  change G 0 [some (.ref a), some (.int r), some (.ref o), none] [] ((J, N, Q, O, U), sz, 0, 0)
  try dsimp only at h
  obtain ⟨rfl, rfl, hli, h⟩ := h
  have hms := hli.2.1.1
  unfold R_stairsLoad at h
  dsimp only at h
  (refine hG 900 _ _ _ _ ?_; simp only [r_L_stairsLoad, zk_kl_none, zk_kl_int, zk_kl_ref, zk_kl_null, zk_kl_long, zk_kl_rf, zk_isr_ref, zk_isr_null, zk_isr_rf9, zk_c1_int, zk_c1_ref, zk_c1_null, zk_c1_rf, zk_psh_some, zk_psh_none, zk_nok_int, zk_nok_bool0, zk_nok_bool1, zk_nok_b, zk_fok_0, zk_fok_1, zk_fok_2, zk_fok_n, zk_fok_rf, zb_f, zb_p, zb_i, zb_a, zb_s, zk_nth_0, zk_nth_s, zk_fld_o, zk_put_o, zk_rv_eq, zk_ri_eq, zk_is_o, List.mem_cons, List.not_mem_nil, or_false, false_or, or_true, true_or, and_true, true_and, not_false_iff, not_true_eq_false, true_implies, false_implies, imp_self, implies_true, forall_const, zk_lit, zk_uj_ap, zk_un_ap, zk_un_un, zk_uj_uj, Nat.reduceEqDiff, eq_self, zk_bq, Bool.true_or, Bool.false_or, Nat.le_refl, Nat.zero_add, Nat.add_zero, Nat.reduceAdd, Nat.reduceLeDiff, Nat.le_zero_eq, and_self, and_false, false_and, ite_true, ite_false, Nat.zero_le, List.length_cons, List.length_nil, Option.some.injEq, forall_eq', reduceCtorEq, spe_X10_stairsLoad])
  refine ⟨J, N, hli.2, ?_⟩
  refine TRD.mk hms (fun j hj ej => ?_) (fun ej => ?_)
  · intro J2 N2 hke hcf
    simp only [r_L_stairsLoad, zk_kl_none, zk_kl_int, zk_kl_ref, zk_kl_null, zk_kl_long, zk_kl_rf, zk_isr_ref, zk_isr_null, zk_isr_rf9, zk_c1_int, zk_c1_ref, zk_c1_null, zk_c1_rf, zk_psh_some, zk_psh_none, zk_nok_int, zk_nok_bool0, zk_nok_bool1, zk_nok_b, zk_fok_0, zk_fok_1, zk_fok_2, zk_fok_n, zk_fok_rf, zb_f, zb_p, zb_i, zb_a, zb_s, zk_nth_0, zk_nth_s, zk_fld_o, zk_put_o, zk_rv_eq, zk_ri_eq, zk_is_o, List.mem_cons, List.not_mem_nil, or_false, false_or, or_true, true_or, and_true, true_and, not_false_iff, not_true_eq_false, true_implies, false_implies, imp_self, implies_true, forall_const, zk_lit, zk_uj_ap, zk_un_ap, zk_un_un, zk_uj_uj, Nat.reduceEqDiff, eq_self, zk_bq, Bool.true_or, Bool.false_or, Nat.le_refl, Nat.zero_add, Nat.add_zero, Nat.reduceAdd, Nat.reduceLeDiff, Nat.le_zero_eq, and_self, and_false, false_and, ite_true, ite_false, Nat.zero_le, List.length_cons, List.length_nil, Option.some.injEq, forall_eq', reduceCtorEq, hc_q, hc_s, hc_v, hc_i]
    exact h 0 _ _ (Or.inl ⟨j, hj, ej, ⟨⟨rfl, up_L U _⟩, LC.ke hli hke hcf (Nat.le_refl _)⟩⟩)
  · intro J2 N2 z2 hke hcf hz
    simp only [r_L_stairsLoad, zk_kl_none, zk_kl_int, zk_kl_ref, zk_kl_null, zk_kl_long, zk_kl_rf, zk_isr_ref, zk_isr_null, zk_isr_rf9, zk_c1_int, zk_c1_ref, zk_c1_null, zk_c1_rf, zk_psh_some, zk_psh_none, zk_nok_int, zk_nok_bool0, zk_nok_bool1, zk_nok_b, zk_fok_0, zk_fok_1, zk_fok_2, zk_fok_n, zk_fok_rf, zb_f, zb_p, zb_i, zb_a, zb_s, zk_nth_0, zk_nth_s, zk_fld_o, zk_put_o, zk_rv_eq, zk_ri_eq, zk_is_o, List.mem_cons, List.not_mem_nil, or_false, false_or, or_true, true_or, and_true, true_and, not_false_iff, not_true_eq_false, true_implies, false_implies, imp_self, implies_true, forall_const, zk_lit, zk_uj_ap, zk_un_ap, zk_un_un, zk_uj_uj, Nat.reduceEqDiff, eq_self, zk_bq, Bool.true_or, Bool.false_or, Nat.le_refl, Nat.zero_add, Nat.add_zero, Nat.reduceAdd, Nat.reduceLeDiff, Nat.le_zero_eq, and_self, and_false, false_and, ite_true, ite_false, Nat.zero_le, List.length_cons, List.length_nil, Option.some.injEq, forall_eq', reduceCtorEq, hc_q, hc_s, hc_v, hc_i]
    exact h 1 _ _ (Or.inr ⟨ej, ⟨rfl, LC.ke hli hke hcf hz⟩⟩)
def hh_L_stairsLoad : List (Nat × Nat × Nat × Nat) := [(0, 9, 12, 21)]
theorem HO_L_stairsLoad : zk_HO RL hh_L_stairsLoad M_L_stairsLoad := by
  intro pc X hp h
  have h2 : (match Nat.beq pc 4 with | true => (if X = "java/lang/IndexOutOfBoundsException" then some 12 else none) | false => none : Option Nat) = some hp := h
  clear h
  split at h2
  · rename_i e
    have e := Nat.eq_of_beq_eq_true e
    subst e
    by_cases e0 : X = "java/lang/IndexOutOfBoundsException"
    · subst e0
      rw [if_pos rfl] at h2
      cases h2
      exact ⟨[], ⟨0, 9, 12, 21⟩, [], rfl, fun _ h => absurd h List.not_mem_nil, by decide, by decide, rfl, "java/lang/IndexOutOfBoundsException", zk_wi 545 (by decide +kernel) rfl, zk_tb 556 (by decide +kernel)⟩
    rw [if_neg e0] at h2
    cases h2
  · cases h2
theorem ct_L_stairsLoad {l : Launch} (hl : l.stackTraces = false) (E : zk_E) : zk_CH l E (zk_VT E) yL_stairsLoad cL_stairsLoad 4 (some (.int)) hh_L_stairsLoad rm_L_stairsLoad (sp_L_stairsLoad E) := by
  refine zk_methH (M := M_L_stairsLoad) (C := C_L_stairsLoad E) (by decide +kernel) rfl HO_L_stairsLoad (zk_VT_ok E) MO_L_stairsLoad TO_L_stairsLoad (fun _ => rfl) ?_ (vc_L_stairsLoad E)
  exact fun p e s m args below meth c X pc n mc ms sp2 h => by
    have h2 := zk_lka_mem h
    simp only [List.mem_cons, List.not_mem_nil, or_false, Prod.mk.injEq] at h2
    rcases h2 with ⟨rfl, rfl, rfl, rfl, rfl⟩
    exact zk_coV (idx := 80) X (ct_X10_stairsLoad hl E) (List.forall_mem_cons.mpr ⟨zk_wi 878 (by decide +kernel) rfl, List.forall_mem_cons.mpr ⟨zk_wi 879 (by decide +kernel) rfl, List.forall_mem_cons.mpr ⟨zk_wi 880 (by decide +kernel) rfl, List.forall_mem_cons.mpr ⟨zk_wi 1 (by decide +kernel) rfl, List.forall_mem_cons.mpr ⟨zk_wi 881 (by decide +kernel) rfl, fun _ h => absurd h List.not_mem_nil⟩⟩⟩⟩⟩) (fun ci h => by
      have h := Nat.eq_of_beq_eq_true h
      subst h
      exact ⟨_, _, rfl⟩) (by decide +kernel) ⟨by decide, by decide, by decide +kernel⟩ ⟨by decide, by decide⟩
def R_left (E : zk_E) (σ : zk_S) (sz : Nat) (n : Int32) (k : Int32) (σ2 : zk_S) (sz2 : Nat) : Prop := CD (m_isIn n 0 999) (WN E σ sz σ2 sz2 k 1) (WO E σ sz σ2 sz2 k (a_left σ.1 σ.2.1 n.toNatClampNeg).toInt64 σ.1 σ.2.1)
def sp_L_left (E : zk_E) : zk_Sp zk_S := fun av σ sz P PX => match av with
  | [.ref a, .int n, .ref o] => a = zk_ad E 0 ∧ o = zk_ad E 54 ∧ LI E sz σ ∧ ∀ k σ2 sz2, R_left E σ sz n k σ2 sz2 → P (some (.int k)) σ2 sz2
  | _ => False
theorem spe_L_left (E : zk_E) (a : Nat) (n : Int32) (o : Nat) (σ : zk_S) (sz : Nat) (P : zk_P zk_S) (PX : zk_X zk_S) : sp_L_left E [.ref a, .int n, .ref o] σ sz P PX = (a = zk_ad E 0 ∧ o = zk_ad E 54 ∧ LI E sz σ ∧ ∀ k σ2 sz2, R_left E σ sz n k σ2 sz2 → P (some (.int k)) σ2 sz2) := propext Iff.rfl
def C_L_left (E : zk_E) : zk_Cl zk_S := zk_lka [(4, 2, 1, 6, zk_rv (zk_VT E) (fun ci => Nat.beq ci 9) (sp_X10_left E))]
theorem r_L_left (E : zk_E) (P : zk_P zk_S) (PX : zk_X zk_S) (K : Nat → zk_L → List Value → zk_W zk_S → Prop) : (∀ (n : Nat) (l0 l1 l3 : Option Value) (y2 : Value) (r : List Value) (σ : zk_S) (sz k c : Nat), zk_run E (zk_VT E) M_L_left (C_L_left E) P PX K (n + 1) 0 [l0, l1, some y2, l3] r (σ, sz, k, c) = (zk_isr y2 ∧ zk_run E (zk_VT E) M_L_left (C_L_left E) P PX K n 1 [l0, l1, some y2, l3] (y2 :: r) (σ, sz, k, c))) ∧
  (∀ (n : Nat) (l0 l1 l2 l3 : Option Value)  (r : List Value) (σ : zk_S) (sz k c : Nat), zk_run E (zk_VT E) M_L_left (C_L_left E) P PX K (n + 1) 1 [l0, l1, l2, l3] r (σ, sz, k, c) = zk_run E (zk_VT E) M_L_left (C_L_left E) P PX K n 2 [l0, l1, l2, l3] (.int (0) :: r) (σ, sz, k, c)) ∧
  (∀ (n : Nat) (l1 l2 l3 : Option Value) (y0 : Value) (r : List Value) (σ : zk_S) (sz k c : Nat), zk_run E (zk_VT E) M_L_left (C_L_left E) P PX K (n + 1) 2 [some y0, l1, l2, l3] r (σ, sz, k, c) = (zk_isr y0 ∧ zk_run E (zk_VT E) M_L_left (C_L_left E) P PX K n 3 [some y0, l1, l2, l3] (y0 :: r) (σ, sz, k, c))) ∧
  (∀ (n : Nat) (l0 l2 l3 : Option Value) (y1 : Int32) (r : List Value) (σ : zk_S) (sz k c : Nat), zk_run E (zk_VT E) M_L_left (C_L_left E) P PX K (n + 1) 3 [l0, some (.int y1), l2, l3] r (σ, sz, k, c) = zk_run E (zk_VT E) M_L_left (C_L_left E) P PX K n 4 [l0, some (.int y1), l2, l3] (.int y1 :: r) (σ, sz, k, c)) ∧
  (∀ (n : Nat) (l0 l1 l2 l3 : Option Value) (v0 : Value) (v1 : Value) (v2 : Value) (v3 : Value)  (σ : zk_S) (sz k c : Nat), zk_run E (zk_VT E) M_L_left (C_L_left E) P PX K (n + 1) 4 [l0, l1, l2, l3] [v0, v1, v2, v3] (σ, sz, k, c) = (k + 1 ≤ 1 ∧ c + 6 ≤ 6 ∧ (zk_rv (zk_VT E) (fun ci => Nat.beq ci 9) (sp_X10_left E)) [v1, v0] σ sz (fun v s2 z2 => zk_run E (zk_VT E) M_L_left (C_L_left E) P PX K n 7 [l0, l1, l2, l3] (zk_psh v [v2, v3]) (s2, z2, k + 1, c + 6)) (fun X s2 z2 => (match (match Nat.beq 4 4 with
  | true => if X = "java/lang/IllegalArgumentException" then some 12 else none
  | false => none : Option Nat) with
    | some hp => ∀ q : Nat, zk_run E (zk_VT E) M_L_left (C_L_left E) P PX K n hp [l0, l1, l2, l3] [.ref q] (s2, z2, k + 1, c + 6)
    | none => PX X s2 z2)))) ∧
  (∀ (n : Nat) (l0 l1 l2 l3 : Option Value) (x : Int32) (r : List Value) (σ : zk_S) (sz k c : Nat), zk_run E (zk_VT E) M_L_left (C_L_left E) P PX K (n + 1) 7 [l0, l1, l2, l3] (.int x :: r) (σ, sz, k, c) = zk_run E (zk_VT E) M_L_left (C_L_left E) P PX K n 8 [l0, l1, l2, l3] (.long (x.toInt64) :: r) (σ, sz, k, c)) ∧
  (∀ (n : Nat) (l0 l1 l2 l3 : Option Value) (a : Nat) (i : Int32) (x : Int64) (r : List Value) (σ : zk_S) (sz k c : Nat), zk_run E (zk_VT E) M_L_left (C_L_left E) P PX K (n + 1) 8 [l0, l1, l2, l3] (.long x :: .int i :: .ref a :: r) (σ, sz, k, c) = zk_lst (zk_view E σ a) (zk_ar E 2) i x (fun e => zk_wrok E σ a e ∧ zk_run E (zk_VT E) M_L_left (C_L_left E) P PX K n 9 [l0, l1, l2, l3] r (zk_wr E σ a e, sz, k, c))) ∧
  (∀ (n : Nat) (l0 l1 l2 l3 : Option Value)  (r : List Value) (σ : zk_S) (sz k c : Nat), zk_run E (zk_VT E) M_L_left (C_L_left E) P PX K (n + 1) 9 [l0, l1, l2, l3] r (σ, sz, k, c) = zk_run E (zk_VT E) M_L_left (C_L_left E) P PX K n 15 [l0, l1, l2, l3] r (σ, sz, k, c)) ∧
  (∀ (n : Nat) (l0 l1 l2 l3 : Option Value) (x : Value) (r : List Value) (σ : zk_S) (sz k c : Nat), zk_run E (zk_VT E) M_L_left (C_L_left E) P PX K (n + 1) 12 [l0, l1, l2, l3] (x :: r) (σ, sz, k, c) = (zk_isr x ∧ zk_run E (zk_VT E) M_L_left (C_L_left E) P PX K n 13 [l0, l1, zk_kl l2, some (x)] r (σ, sz, k, c))) ∧
  (∀ (n : Nat) (l0 l1 l2 l3 : Option Value)  (r : List Value) (σ : zk_S) (sz k c : Nat), zk_run E (zk_VT E) M_L_left (C_L_left E) P PX K (n + 1) 13 [l0, l1, l2, l3] r (σ, sz, k, c) = zk_run E (zk_VT E) M_L_left (C_L_left E) P PX K n 14 [l0, l1, l2, l3] (.int (1) :: r) (σ, sz, k, c)) ∧
  (∀ (n : Nat) (l0 l1 l2 l3 : Option Value) (x : Int32)  (σ : zk_S) (sz k c : Nat), zk_run E (zk_VT E) M_L_left (C_L_left E) P PX K (n + 1) 14 [l0, l1, l2, l3] [.int x] (σ, sz, k, c) = (zk_nok (some (.int)) x ∧ P (some (.int x)) σ sz ∧ k ≤ 1 ∧ c ≤ 6)) ∧
  (∀ (n : Nat) (l0 l1 l2 l3 : Option Value)  (r : List Value) (σ : zk_S) (sz k c : Nat), zk_run E (zk_VT E) M_L_left (C_L_left E) P PX K (n + 1) 15 [l0, l1, l2, l3] r (σ, sz, k, c) = zk_run E (zk_VT E) M_L_left (C_L_left E) P PX K n 16 [l0, l1, l2, l3] (.int (0) :: r) (σ, sz, k, c)) ∧
  (∀ (n : Nat) (l0 l1 l2 l3 : Option Value) (x : Int32)  (σ : zk_S) (sz k c : Nat), zk_run E (zk_VT E) M_L_left (C_L_left E) P PX K (n + 1) 16 [l0, l1, l2, l3] [.int x] (σ, sz, k, c) = (zk_nok (some (.int)) x ∧ P (some (.int x)) σ sz ∧ k ≤ 1 ∧ c ≤ 6)) ∧
  (∀ (n : Nat) (l0 l1 l2 l3 : Option Value) (r : List Value) (w : zk_W zk_S), zk_go E (zk_VT E) M_L_left (C_L_left E) P PX K n 0 [l0, l1, l2, l3] r w = zk_run E (zk_VT E) M_L_left (C_L_left E) P PX K (n + 1) 0 [l0, l1, l2, l3] r w) := ⟨by intros; rfl, by intros; rfl, by intros; rfl, by intros; rfl, by intros; rfl, by intros; rfl, by intros; rfl, by intros; rfl, by intros; rfl, by intros; rfl, by intros; rfl, by intros; rfl, by intros; rfl, by intros; rfl⟩
set_option maxHeartbeats 4000000 in
theorem vc_L_left (E : zk_E) : zk_VCH E (zk_VT E) M_L_left (C_L_left E) 4 (sp_L_left E) := by
  intro av σ sz P h
  obtain ⟨J, N, Q, O, U⟩ := σ
  unfold sp_L_left at h
  split at h
  case h_2 => exact h.elim
  rename_i a n o
  refine ⟨Nat.le_of_ble_eq_true rfl, fun G hG => ?_⟩
  change G 0 [some (.ref a), some (.int n), some (.ref o), none] [] ((J, N, Q, O, U), sz, 0, 0)
  try dsimp only at h
  obtain ⟨rfl, rfl, hli, h⟩ := h
  have hms := hli.2.1.1
  unfold R_left at h
  dsimp only at h
  (refine hG 900 _ _ _ _ ?_; simp only [r_L_left, zk_kl_none, zk_kl_int, zk_kl_ref, zk_kl_null, zk_kl_long, zk_kl_rf, zk_isr_ref, zk_isr_null, zk_isr_rf9, zk_c1_int, zk_c1_ref, zk_c1_null, zk_c1_rf, zk_psh_some, zk_psh_none, zk_nok_int, zk_nok_bool0, zk_nok_bool1, zk_nok_b, zk_fok_0, zk_fok_1, zk_fok_2, zk_fok_n, zk_fok_rf, zb_f, zb_p, zb_i, zb_a, zb_s, zk_nth_0, zk_nth_s, zk_fld_o, zk_put_o, zk_rv_eq, zk_ri_eq, zk_is_o, List.mem_cons, List.not_mem_nil, or_false, false_or, or_true, true_or, and_true, true_and, not_false_iff, not_true_eq_false, true_implies, false_implies, imp_self, implies_true, forall_const, zk_lit, zk_uj_ap, zk_un_ap, zk_un_un, zk_uj_uj, Nat.reduceEqDiff, eq_self, zk_bq, Bool.true_or, Bool.false_or, Nat.le_refl, Nat.zero_add, Nat.add_zero, Nat.reduceAdd, Nat.reduceLeDiff, Nat.le_zero_eq, and_self, and_false, false_and, ite_true, ite_false, Nat.zero_le, List.length_cons, List.length_nil, Option.some.injEq, forall_eq', reduceCtorEq, spe_X10_left])
  refine ⟨J, N, hli.2, ?_⟩
  refine ⟨fun hc => ?_, fun hc => ?_⟩
  · intro J2 N2 z2 hke hcf hz
    simp only [r_L_left, zk_kl_none, zk_kl_int, zk_kl_ref, zk_kl_null, zk_kl_long, zk_kl_rf, zk_isr_ref, zk_isr_null, zk_isr_rf9, zk_c1_int, zk_c1_ref, zk_c1_null, zk_c1_rf, zk_psh_some, zk_psh_none, zk_nok_int, zk_nok_bool0, zk_nok_bool1, zk_nok_b, zk_fok_0, zk_fok_1, zk_fok_2, zk_fok_n, zk_fok_rf, zb_f, zb_p, zb_i, zb_a, zb_s, zk_nth_0, zk_nth_s, zk_fld_o, zk_put_o, zk_rv_eq, zk_ri_eq, zk_is_o, List.mem_cons, List.not_mem_nil, or_false, false_or, or_true, true_or, and_true, true_and, not_false_iff, not_true_eq_false, true_implies, false_implies, imp_self, implies_true, forall_const, zk_lit, zk_uj_ap, zk_un_ap, zk_un_un, zk_uj_uj, Nat.reduceEqDiff, eq_self, zk_bq, Bool.true_or, Bool.false_or, Nat.le_refl, Nat.zero_add, Nat.add_zero, Nat.reduceAdd, Nat.reduceLeDiff, Nat.le_zero_eq, and_self, and_false, false_and, ite_true, ite_false, Nat.zero_le, List.length_cons, List.length_nil, Option.some.injEq, forall_eq', reduceCtorEq, hc_q, hc_s, hc_v, hc_i]
    exact h 1 _ _ (Or.inl ⟨hc, ⟨rfl, LC.ke hli hke hcf hz⟩⟩)
  · intro J2 N2 hke hcf
    simp only [r_L_left, zk_kl_none, zk_kl_int, zk_kl_ref, zk_kl_null, zk_kl_long, zk_kl_rf, zk_isr_ref, zk_isr_null, zk_isr_rf9, zk_c1_int, zk_c1_ref, zk_c1_null, zk_c1_rf, zk_psh_some, zk_psh_none, zk_nok_int, zk_nok_bool0, zk_nok_bool1, zk_nok_b, zk_fok_0, zk_fok_1, zk_fok_2, zk_fok_n, zk_fok_rf, zb_f, zb_p, zb_i, zb_a, zb_s, zk_nth_0, zk_nth_s, zk_fld_o, zk_put_o, zk_rv_eq, zk_ri_eq, zk_is_o, List.mem_cons, List.not_mem_nil, or_false, false_or, or_true, true_or, and_true, true_and, not_false_iff, not_true_eq_false, true_implies, false_implies, imp_self, implies_true, forall_const, zk_lit, zk_uj_ap, zk_un_ap, zk_un_un, zk_uj_uj, Nat.reduceEqDiff, eq_self, zk_bq, Bool.true_or, Bool.false_or, Nat.le_refl, Nat.zero_add, Nat.add_zero, Nat.reduceAdd, Nat.reduceLeDiff, Nat.le_zero_eq, and_self, and_false, false_and, ite_true, ite_false, Nat.zero_le, List.length_cons, List.length_nil, Option.some.injEq, forall_eq', reduceCtorEq, hc_q, hc_s, hc_v, hc_i]
    exact h 0 _ _ (Or.inr ⟨hc, ⟨⟨rfl, up_L U _⟩, LC.ke hli hke hcf (Nat.le_refl _)⟩⟩)
def hh_L_left : List (Nat × Nat × Nat × Nat) := [(0, 9, 12, 13)]
theorem HO_L_left : zk_HO RL hh_L_left M_L_left := by
  intro pc X hp h
  have h2 : (match Nat.beq pc 4 with | true => (if X = "java/lang/IllegalArgumentException" then some 12 else none) | false => none : Option Nat) = some hp := h
  clear h
  split at h2
  · rename_i e
    have e := Nat.eq_of_beq_eq_true e
    subst e
    by_cases e0 : X = "java/lang/IllegalArgumentException"
    · subst e0
      rw [if_pos rfl] at h2
      cases h2
      exact ⟨[], ⟨0, 9, 12, 13⟩, [], rfl, fun _ h => absurd h List.not_mem_nil, by decide, by decide, rfl, "java/lang/IllegalArgumentException", zk_wi 394 (by decide +kernel) rfl, zk_tb 405 (by decide +kernel)⟩
    rw [if_neg e0] at h2
    cases h2
  · cases h2
theorem ct_L_left {l : Launch} (hl : l.stackTraces = false) (E : zk_E) : zk_CH l E (zk_VT E) yL_left cL_left 4 (some (.int)) hh_L_left rm_L_left (sp_L_left E) := by
  refine zk_methH (M := M_L_left) (C := C_L_left E) (by decide +kernel) rfl HO_L_left (zk_VT_ok E) MO_L_left TO_L_left (fun _ => rfl) ?_ (vc_L_left E)
  exact fun p e s m args below meth c X pc n mc ms sp2 h => by
    have h2 := zk_lka_mem h
    simp only [List.mem_cons, List.not_mem_nil, or_false, Prod.mk.injEq] at h2
    rcases h2 with ⟨rfl, rfl, rfl, rfl, rfl⟩
    exact zk_coV (idx := 83) X (ct_X10_left hl E) (List.forall_mem_cons.mpr ⟨zk_wi 886 (by decide +kernel) rfl, List.forall_mem_cons.mpr ⟨zk_wi 887 (by decide +kernel) rfl, List.forall_mem_cons.mpr ⟨zk_wi 888 (by decide +kernel) rfl, List.forall_mem_cons.mpr ⟨zk_wi 1 (by decide +kernel) rfl, List.forall_mem_cons.mpr ⟨zk_wi 889 (by decide +kernel) rfl, fun _ h => absurd h List.not_mem_nil⟩⟩⟩⟩⟩) (fun ci h => by
      have h := Nat.eq_of_beq_eq_true h
      subst h
      exact ⟨_, _, rfl⟩) (by decide +kernel) ⟨by decide, by decide, by decide +kernel⟩ ⟨by decide, by decide⟩
def R_inRoom (E : zk_E) (σ : zk_S) (sz : Nat) (r : Int32) (n : Int32) (k : Int32) (σ2 : zk_S) (sz2 : Nat) : Prop := RD σ.1 σ.2.1 r (fun j => CD (m_isIn n 0 999) (WN E σ sz σ2 sz2 k 2) (WO E σ sz σ2 sz2 k (a_inR σ.1 σ.2.1 n.toNatClampNeg j).toInt64 σ.1 σ.2.1)) (WN E σ sz σ2 sz2 k 1)
def sp_L_inRoom (E : zk_E) : zk_Sp zk_S := fun av σ sz P PX => match av with
  | [.ref a, .int r, .int n, .ref o] => a = zk_ad E 0 ∧ o = zk_ad E 54 ∧ LI E sz σ ∧ ∀ k σ2 sz2, R_inRoom E σ sz r n k σ2 sz2 → P (some (.int k)) σ2 sz2
  | _ => False
theorem spe_L_inRoom (E : zk_E) (a : Nat) (r : Int32) (n : Int32) (o : Nat) (σ : zk_S) (sz : Nat) (P : zk_P zk_S) (PX : zk_X zk_S) : sp_L_inRoom E [.ref a, .int r, .int n, .ref o] σ sz P PX = (a = zk_ad E 0 ∧ o = zk_ad E 54 ∧ LI E sz σ ∧ ∀ k σ2 sz2, R_inRoom E σ sz r n k σ2 sz2 → P (some (.int k)) σ2 sz2) := propext Iff.rfl
def C_L_inRoom (E : zk_E) : zk_Cl zk_S := zk_lka [(5, 3, 2, 12, zk_rv (zk_VT E) (fun ci => Nat.beq ci 9) (sp_X10_inRoom E))]
theorem r_L_inRoom (E : zk_E) (P : zk_P zk_S) (PX : zk_X zk_S) (K : Nat → zk_L → List Value → zk_W zk_S → Prop) : (∀ (n : Nat) (l0 l1 l2 l4 : Option Value) (y3 : Value) (r : List Value) (σ : zk_S) (sz k c : Nat), zk_run E (zk_VT E) M_L_inRoom (C_L_inRoom E) P PX K (n + 1) 0 [l0, l1, l2, some y3, l4] r (σ, sz, k, c) = (zk_isr y3 ∧ zk_run E (zk_VT E) M_L_inRoom (C_L_inRoom E) P PX K n 1 [l0, l1, l2, some y3, l4] (y3 :: r) (σ, sz, k, c))) ∧
  (∀ (n : Nat) (l0 l1 l2 l3 l4 : Option Value)  (r : List Value) (σ : zk_S) (sz k c : Nat), zk_run E (zk_VT E) M_L_inRoom (C_L_inRoom E) P PX K (n + 1) 1 [l0, l1, l2, l3, l4] r (σ, sz, k, c) = zk_run E (zk_VT E) M_L_inRoom (C_L_inRoom E) P PX K n 2 [l0, l1, l2, l3, l4] (.int (0) :: r) (σ, sz, k, c)) ∧
  (∀ (n : Nat) (l1 l2 l3 l4 : Option Value) (y0 : Value) (r : List Value) (σ : zk_S) (sz k c : Nat), zk_run E (zk_VT E) M_L_inRoom (C_L_inRoom E) P PX K (n + 1) 2 [some y0, l1, l2, l3, l4] r (σ, sz, k, c) = (zk_isr y0 ∧ zk_run E (zk_VT E) M_L_inRoom (C_L_inRoom E) P PX K n 3 [some y0, l1, l2, l3, l4] (y0 :: r) (σ, sz, k, c))) ∧
  (∀ (n : Nat) (l0 l2 l3 l4 : Option Value) (y1 : Int32) (r : List Value) (σ : zk_S) (sz k c : Nat), zk_run E (zk_VT E) M_L_inRoom (C_L_inRoom E) P PX K (n + 1) 3 [l0, some (.int y1), l2, l3, l4] r (σ, sz, k, c) = zk_run E (zk_VT E) M_L_inRoom (C_L_inRoom E) P PX K n 4 [l0, some (.int y1), l2, l3, l4] (.int y1 :: r) (σ, sz, k, c)) ∧
  (∀ (n : Nat) (l0 l1 l3 l4 : Option Value) (y2 : Int32) (r : List Value) (σ : zk_S) (sz k c : Nat), zk_run E (zk_VT E) M_L_inRoom (C_L_inRoom E) P PX K (n + 1) 4 [l0, l1, some (.int y2), l3, l4] r (σ, sz, k, c) = zk_run E (zk_VT E) M_L_inRoom (C_L_inRoom E) P PX K n 5 [l0, l1, some (.int y2), l3, l4] (.int y2 :: r) (σ, sz, k, c)) ∧
  (∀ (n : Nat) (l0 l1 l2 l3 l4 : Option Value) (v0 : Value) (v1 : Value) (v2 : Value) (v3 : Value) (v4 : Value)  (σ : zk_S) (sz k c : Nat), zk_run E (zk_VT E) M_L_inRoom (C_L_inRoom E) P PX K (n + 1) 5 [l0, l1, l2, l3, l4] [v0, v1, v2, v3, v4] (σ, sz, k, c) = (k + 2 ≤ 2 ∧ c + 12 ≤ 12 ∧ (zk_rv (zk_VT E) (fun ci => Nat.beq ci 9) (sp_X10_inRoom E)) [v2, v1, v0] σ sz (fun v s2 z2 => zk_run E (zk_VT E) M_L_inRoom (C_L_inRoom E) P PX K n 8 [l0, l1, l2, l3, l4] (zk_psh v [v3, v4]) (s2, z2, k + 2, c + 12)) (fun X s2 z2 => (match (match Nat.beq 5 5 with
  | true => if X = "java/lang/IndexOutOfBoundsException" then some 13 else if X = "java/lang/IllegalArgumentException" then some 17 else none
  | false => none : Option Nat) with
    | some hp => ∀ q : Nat, zk_run E (zk_VT E) M_L_inRoom (C_L_inRoom E) P PX K n hp [l0, l1, l2, l3, l4] [.ref q] (s2, z2, k + 2, c + 12)
    | none => PX X s2 z2)))) ∧
  (∀ (n : Nat) (l0 l1 l2 l3 l4 : Option Value) (x : Int32) (r : List Value) (σ : zk_S) (sz k c : Nat), zk_run E (zk_VT E) M_L_inRoom (C_L_inRoom E) P PX K (n + 1) 8 [l0, l1, l2, l3, l4] (.int x :: r) (σ, sz, k, c) = zk_run E (zk_VT E) M_L_inRoom (C_L_inRoom E) P PX K n 9 [l0, l1, l2, l3, l4] (.long (x.toInt64) :: r) (σ, sz, k, c)) ∧
  (∀ (n : Nat) (l0 l1 l2 l3 l4 : Option Value) (a : Nat) (i : Int32) (x : Int64) (r : List Value) (σ : zk_S) (sz k c : Nat), zk_run E (zk_VT E) M_L_inRoom (C_L_inRoom E) P PX K (n + 1) 9 [l0, l1, l2, l3, l4] (.long x :: .int i :: .ref a :: r) (σ, sz, k, c) = zk_lst (zk_view E σ a) (zk_ar E 2) i x (fun e => zk_wrok E σ a e ∧ zk_run E (zk_VT E) M_L_inRoom (C_L_inRoom E) P PX K n 10 [l0, l1, l2, l3, l4] r (zk_wr E σ a e, sz, k, c))) ∧
  (∀ (n : Nat) (l0 l1 l2 l3 l4 : Option Value)  (r : List Value) (σ : zk_S) (sz k c : Nat), zk_run E (zk_VT E) M_L_inRoom (C_L_inRoom E) P PX K (n + 1) 10 [l0, l1, l2, l3, l4] r (σ, sz, k, c) = zk_run E (zk_VT E) M_L_inRoom (C_L_inRoom E) P PX K n 21 [l0, l1, l2, l3, l4] r (σ, sz, k, c)) ∧
  (∀ (n : Nat) (l0 l1 l2 l3 l4 : Option Value) (x : Value) (r : List Value) (σ : zk_S) (sz k c : Nat), zk_run E (zk_VT E) M_L_inRoom (C_L_inRoom E) P PX K (n + 1) 13 [l0, l1, l2, l3, l4] (x :: r) (σ, sz, k, c) = (zk_isr x ∧ zk_run E (zk_VT E) M_L_inRoom (C_L_inRoom E) P PX K n 15 [l0, l1, l2, zk_kl l3, some (x)] r (σ, sz, k, c))) ∧
  (∀ (n : Nat) (l0 l1 l2 l3 l4 : Option Value)  (r : List Value) (σ : zk_S) (sz k c : Nat), zk_run E (zk_VT E) M_L_inRoom (C_L_inRoom E) P PX K (n + 1) 15 [l0, l1, l2, l3, l4] r (σ, sz, k, c) = zk_run E (zk_VT E) M_L_inRoom (C_L_inRoom E) P PX K n 16 [l0, l1, l2, l3, l4] (.int (1) :: r) (σ, sz, k, c)) ∧
  (∀ (n : Nat) (l0 l1 l2 l3 l4 : Option Value) (x : Int32)  (σ : zk_S) (sz k c : Nat), zk_run E (zk_VT E) M_L_inRoom (C_L_inRoom E) P PX K (n + 1) 16 [l0, l1, l2, l3, l4] [.int x] (σ, sz, k, c) = (zk_nok (some (.int)) x ∧ P (some (.int x)) σ sz ∧ k ≤ 2 ∧ c ≤ 12)) ∧
  (∀ (n : Nat) (l0 l1 l2 l3 l4 : Option Value) (x : Value) (r : List Value) (σ : zk_S) (sz k c : Nat), zk_run E (zk_VT E) M_L_inRoom (C_L_inRoom E) P PX K (n + 1) 17 [l0, l1, l2, l3, l4] (x :: r) (σ, sz, k, c) = (zk_isr x ∧ zk_run E (zk_VT E) M_L_inRoom (C_L_inRoom E) P PX K n 19 [l0, l1, l2, zk_kl l3, some (x)] r (σ, sz, k, c))) ∧
  (∀ (n : Nat) (l0 l1 l2 l3 l4 : Option Value)  (r : List Value) (σ : zk_S) (sz k c : Nat), zk_run E (zk_VT E) M_L_inRoom (C_L_inRoom E) P PX K (n + 1) 19 [l0, l1, l2, l3, l4] r (σ, sz, k, c) = zk_run E (zk_VT E) M_L_inRoom (C_L_inRoom E) P PX K n 20 [l0, l1, l2, l3, l4] (.int (2) :: r) (σ, sz, k, c)) ∧
  (∀ (n : Nat) (l0 l1 l2 l3 l4 : Option Value) (x : Int32)  (σ : zk_S) (sz k c : Nat), zk_run E (zk_VT E) M_L_inRoom (C_L_inRoom E) P PX K (n + 1) 20 [l0, l1, l2, l3, l4] [.int x] (σ, sz, k, c) = (zk_nok (some (.int)) x ∧ P (some (.int x)) σ sz ∧ k ≤ 2 ∧ c ≤ 12)) ∧
  (∀ (n : Nat) (l0 l1 l2 l3 l4 : Option Value)  (r : List Value) (σ : zk_S) (sz k c : Nat), zk_run E (zk_VT E) M_L_inRoom (C_L_inRoom E) P PX K (n + 1) 21 [l0, l1, l2, l3, l4] r (σ, sz, k, c) = zk_run E (zk_VT E) M_L_inRoom (C_L_inRoom E) P PX K n 22 [l0, l1, l2, l3, l4] (.int (0) :: r) (σ, sz, k, c)) ∧
  (∀ (n : Nat) (l0 l1 l2 l3 l4 : Option Value) (x : Int32)  (σ : zk_S) (sz k c : Nat), zk_run E (zk_VT E) M_L_inRoom (C_L_inRoom E) P PX K (n + 1) 22 [l0, l1, l2, l3, l4] [.int x] (σ, sz, k, c) = (zk_nok (some (.int)) x ∧ P (some (.int x)) σ sz ∧ k ≤ 2 ∧ c ≤ 12)) ∧
  (∀ (n : Nat) (l0 l1 l2 l3 l4 : Option Value) (r : List Value) (w : zk_W zk_S), zk_go E (zk_VT E) M_L_inRoom (C_L_inRoom E) P PX K n 0 [l0, l1, l2, l3, l4] r w = zk_run E (zk_VT E) M_L_inRoom (C_L_inRoom E) P PX K (n + 1) 0 [l0, l1, l2, l3, l4] r w) := ⟨by intros; rfl, by intros; rfl, by intros; rfl, by intros; rfl, by intros; rfl, by intros; rfl, by intros; rfl, by intros; rfl, by intros; rfl, by intros; rfl, by intros; rfl, by intros; rfl, by intros; rfl, by intros; rfl, by intros; rfl, by intros; rfl, by intros; rfl, by intros; rfl⟩
set_option maxHeartbeats 4000000 in
theorem vc_L_inRoom (E : zk_E) : zk_VCH E (zk_VT E) M_L_inRoom (C_L_inRoom E) 5 (sp_L_inRoom E) := by
  intro av σ sz P h
  obtain ⟨J, N, Q, O, U⟩ := σ
  unfold sp_L_inRoom at h
  split at h
  case h_2 => exact h.elim
  rename_i a r n o
  refine ⟨Nat.le_of_ble_eq_true rfl, fun G hG => ?_⟩
  change G 0 [some (.ref a), some (.int r), some (.int n), some (.ref o), none] [] ((J, N, Q, O, U), sz, 0, 0)
  try dsimp only at h
  obtain ⟨rfl, rfl, hli, h⟩ := h
  have hms := hli.2.1.1
  unfold R_inRoom at h
  dsimp only at h
  (refine hG 900 _ _ _ _ ?_; simp only [r_L_inRoom, zk_kl_none, zk_kl_int, zk_kl_ref, zk_kl_null, zk_kl_long, zk_kl_rf, zk_isr_ref, zk_isr_null, zk_isr_rf9, zk_c1_int, zk_c1_ref, zk_c1_null, zk_c1_rf, zk_psh_some, zk_psh_none, zk_nok_int, zk_nok_bool0, zk_nok_bool1, zk_nok_b, zk_fok_0, zk_fok_1, zk_fok_2, zk_fok_n, zk_fok_rf, zb_f, zb_p, zb_i, zb_a, zb_s, zk_nth_0, zk_nth_s, zk_fld_o, zk_put_o, zk_rv_eq, zk_ri_eq, zk_is_o, List.mem_cons, List.not_mem_nil, or_false, false_or, or_true, true_or, and_true, true_and, not_false_iff, not_true_eq_false, true_implies, false_implies, imp_self, implies_true, forall_const, zk_lit, zk_uj_ap, zk_un_ap, zk_un_un, zk_uj_uj, Nat.reduceEqDiff, eq_self, zk_bq, Bool.true_or, Bool.false_or, Nat.le_refl, Nat.zero_add, Nat.add_zero, Nat.reduceAdd, Nat.reduceLeDiff, Nat.le_zero_eq, and_self, and_false, false_and, ite_true, ite_false, Nat.zero_le, List.length_cons, List.length_nil, Option.some.injEq, forall_eq', reduceCtorEq, spe_X10_inRoom])
  refine ⟨J, N, hli.2, ?_⟩
  refine RD.mk hms (fun j hj ej => ?_) (fun ej => ?_)
  · refine ⟨fun hc => ?_, fun hc => ?_⟩
    · intro J2 N2 z2 hke hcf hz
      simp only [r_L_inRoom, zk_kl_none, zk_kl_int, zk_kl_ref, zk_kl_null, zk_kl_long, zk_kl_rf, zk_isr_ref, zk_isr_null, zk_isr_rf9, zk_c1_int, zk_c1_ref, zk_c1_null, zk_c1_rf, zk_psh_some, zk_psh_none, zk_nok_int, zk_nok_bool0, zk_nok_bool1, zk_nok_b, zk_fok_0, zk_fok_1, zk_fok_2, zk_fok_n, zk_fok_rf, zb_f, zb_p, zb_i, zb_a, zb_s, zk_nth_0, zk_nth_s, zk_fld_o, zk_put_o, zk_rv_eq, zk_ri_eq, zk_is_o, List.mem_cons, List.not_mem_nil, or_false, false_or, or_true, true_or, and_true, true_and, not_false_iff, not_true_eq_false, true_implies, false_implies, imp_self, implies_true, forall_const, zk_lit, zk_uj_ap, zk_un_ap, zk_un_un, zk_uj_uj, Nat.reduceEqDiff, eq_self, zk_bq, Bool.true_or, Bool.false_or, Nat.le_refl, Nat.zero_add, Nat.add_zero, Nat.reduceAdd, Nat.reduceLeDiff, Nat.le_zero_eq, and_self, and_false, false_and, ite_true, ite_false, Nat.zero_le, List.length_cons, List.length_nil, Option.some.injEq, forall_eq', reduceCtorEq, hc_q, hc_s, hc_v, hc_i]
      exact h 2 _ _ (Or.inl ⟨j, hj, ej, Or.inl ⟨hc, ⟨rfl, LC.ke hli hke hcf hz⟩⟩⟩)
    · intro J2 N2 hke hcf
      simp only [r_L_inRoom, zk_kl_none, zk_kl_int, zk_kl_ref, zk_kl_null, zk_kl_long, zk_kl_rf, zk_isr_ref, zk_isr_null, zk_isr_rf9, zk_c1_int, zk_c1_ref, zk_c1_null, zk_c1_rf, zk_psh_some, zk_psh_none, zk_nok_int, zk_nok_bool0, zk_nok_bool1, zk_nok_b, zk_fok_0, zk_fok_1, zk_fok_2, zk_fok_n, zk_fok_rf, zb_f, zb_p, zb_i, zb_a, zb_s, zk_nth_0, zk_nth_s, zk_fld_o, zk_put_o, zk_rv_eq, zk_ri_eq, zk_is_o, List.mem_cons, List.not_mem_nil, or_false, false_or, or_true, true_or, and_true, true_and, not_false_iff, not_true_eq_false, true_implies, false_implies, imp_self, implies_true, forall_const, zk_lit, zk_uj_ap, zk_un_ap, zk_un_un, zk_uj_uj, Nat.reduceEqDiff, eq_self, zk_bq, Bool.true_or, Bool.false_or, Nat.le_refl, Nat.zero_add, Nat.add_zero, Nat.reduceAdd, Nat.reduceLeDiff, Nat.le_zero_eq, and_self, and_false, false_and, ite_true, ite_false, Nat.zero_le, List.length_cons, List.length_nil, Option.some.injEq, forall_eq', reduceCtorEq, hc_q, hc_s, hc_v, hc_i]
      exact h 0 _ _ (Or.inl ⟨j, hj, ej, Or.inr ⟨hc, ⟨⟨rfl, up_L U _⟩, LC.ke hli hke hcf (Nat.le_refl _)⟩⟩⟩)
  · intro J2 N2 z2 hke hcf hz
    simp only [r_L_inRoom, zk_kl_none, zk_kl_int, zk_kl_ref, zk_kl_null, zk_kl_long, zk_kl_rf, zk_isr_ref, zk_isr_null, zk_isr_rf9, zk_c1_int, zk_c1_ref, zk_c1_null, zk_c1_rf, zk_psh_some, zk_psh_none, zk_nok_int, zk_nok_bool0, zk_nok_bool1, zk_nok_b, zk_fok_0, zk_fok_1, zk_fok_2, zk_fok_n, zk_fok_rf, zb_f, zb_p, zb_i, zb_a, zb_s, zk_nth_0, zk_nth_s, zk_fld_o, zk_put_o, zk_rv_eq, zk_ri_eq, zk_is_o, List.mem_cons, List.not_mem_nil, or_false, false_or, or_true, true_or, and_true, true_and, not_false_iff, not_true_eq_false, true_implies, false_implies, imp_self, implies_true, forall_const, zk_lit, zk_uj_ap, zk_un_ap, zk_un_un, zk_uj_uj, Nat.reduceEqDiff, eq_self, zk_bq, Bool.true_or, Bool.false_or, Nat.le_refl, Nat.zero_add, Nat.add_zero, Nat.reduceAdd, Nat.reduceLeDiff, Nat.le_zero_eq, and_self, and_false, false_and, ite_true, ite_false, Nat.zero_le, List.length_cons, List.length_nil, Option.some.injEq, forall_eq', reduceCtorEq, hc_q, hc_s, hc_v, hc_i]
    exact h 1 _ _ (Or.inr ⟨ej, ⟨rfl, LC.ke hli hke hcf hz⟩⟩)
def hh_L_inRoom : List (Nat × Nat × Nat × Nat) := [(0, 10, 13, 21), (0, 10, 17, 13)]
theorem HO_L_inRoom : zk_HO RL hh_L_inRoom M_L_inRoom := by
  intro pc X hp h
  have h2 : (match Nat.beq pc 5 with | true => (if X = "java/lang/IndexOutOfBoundsException" then some 13 else if X = "java/lang/IllegalArgumentException" then some 17 else none) | false => none : Option Nat) = some hp := h
  clear h
  split at h2
  · rename_i e
    have e := Nat.eq_of_beq_eq_true e
    subst e
    by_cases e0 : X = "java/lang/IndexOutOfBoundsException"
    · subst e0
      rw [if_pos rfl] at h2
      cases h2
      exact ⟨[], ⟨0, 10, 13, 21⟩, [⟨0, 10, 17, 13⟩], rfl, fun _ h => absurd h List.not_mem_nil, by decide, by decide, rfl, "java/lang/IndexOutOfBoundsException", zk_wi 545 (by decide +kernel) rfl, zk_tb 556 (by decide +kernel)⟩
    by_cases e1 : X = "java/lang/IllegalArgumentException"
    · subst e1
      rw [if_neg e0, if_pos rfl] at h2
      cases h2
      exact ⟨[⟨0, 10, 13, 21⟩], ⟨0, 10, 17, 13⟩, [], rfl, List.forall_mem_cons.mpr ⟨⟨by decide, "java/lang/IndexOutOfBoundsException", zk_wi 545 (by decide +kernel) rfl, by decide⟩, fun _ h => absurd h List.not_mem_nil⟩, by decide, by decide, rfl, "java/lang/IllegalArgumentException", zk_wi 394 (by decide +kernel) rfl, zk_tb 405 (by decide +kernel)⟩
    rw [if_neg e0, if_neg e1] at h2
    cases h2
  · cases h2
theorem ct_L_inRoom {l : Launch} (hl : l.stackTraces = false) (E : zk_E) : zk_CH l E (zk_VT E) yL_inRoom cL_inRoom 5 (some (.int)) hh_L_inRoom rm_L_inRoom (sp_L_inRoom E) := by
  refine zk_methH (M := M_L_inRoom) (C := C_L_inRoom E) (by decide +kernel) rfl HO_L_inRoom (zk_VT_ok E) MO_L_inRoom TO_L_inRoom (fun _ => rfl) ?_ (vc_L_inRoom E)
  exact fun p e s m args below meth c X pc n mc ms sp2 h => by
    have h2 := zk_lka_mem h
    simp only [List.mem_cons, List.not_mem_nil, or_false, Prod.mk.injEq] at h2
    rcases h2 with ⟨rfl, rfl, rfl, rfl, rfl⟩
    exact zk_coV (idx := 86) X (ct_X10_inRoom hl E) (List.forall_mem_cons.mpr ⟨zk_wi 897 (by decide +kernel) rfl, List.forall_mem_cons.mpr ⟨zk_wi 898 (by decide +kernel) rfl, List.forall_mem_cons.mpr ⟨zk_wi 899 (by decide +kernel) rfl, List.forall_mem_cons.mpr ⟨zk_wi 1 (by decide +kernel) rfl, List.forall_mem_cons.mpr ⟨zk_wi 900 (by decide +kernel) rfl, fun _ h => absurd h List.not_mem_nil⟩⟩⟩⟩⟩) (fun ci h => by
      have h := Nat.eq_of_beq_eq_true h
      subst h
      exact ⟨_, _, rfl⟩) (by decide +kernel) ⟨by decide, by decide, by decide +kernel⟩ ⟨by decide, by decide⟩
def R_ruleOf (E : zk_E) (σ : zk_S) (sz : Nat) (i : Int32) (k : Int32) (σ2 : zk_S) (sz2 : Nat) : Prop := CD (m_isIn i 0 (nI (a_faults σ.1 σ.2.1) - 1)) (WN E σ sz σ2 sz2 k 1) (WO E σ sz σ2 sz2 k (a_fq σ.1 σ.2.1 i.toNatClampNeg 0).toInt64 σ.1 σ.2.1)
def sp_L_ruleOf (E : zk_E) : zk_Sp zk_S := fun av σ sz P PX => match av with
  | [.ref a, .int i, .ref o] => a = zk_ad E 0 ∧ o = zk_ad E 54 ∧ LI E sz σ ∧ ∀ k σ2 sz2, R_ruleOf E σ sz i k σ2 sz2 → P (some (.int k)) σ2 sz2
  | _ => False
theorem spe_L_ruleOf (E : zk_E) (a : Nat) (i : Int32) (o : Nat) (σ : zk_S) (sz : Nat) (P : zk_P zk_S) (PX : zk_X zk_S) : sp_L_ruleOf E [.ref a, .int i, .ref o] σ sz P PX = (a = zk_ad E 0 ∧ o = zk_ad E 54 ∧ LI E sz σ ∧ ∀ k σ2 sz2, R_ruleOf E σ sz i k σ2 sz2 → P (some (.int k)) σ2 sz2) := propext Iff.rfl
def C_L_ruleOf (E : zk_E) : zk_Cl zk_S := zk_lka [(4, 2, 1, 6, zk_rv (zk_VT E) (fun ci => Nat.beq ci 9) (sp_X10_ruleOf E))]
theorem r_L_ruleOf (E : zk_E) (P : zk_P zk_S) (PX : zk_X zk_S) (K : Nat → zk_L → List Value → zk_W zk_S → Prop) : (∀ (n : Nat) (l0 l1 l3 : Option Value) (y2 : Value) (r : List Value) (σ : zk_S) (sz k c : Nat), zk_run E (zk_VT E) M_L_ruleOf (C_L_ruleOf E) P PX K (n + 1) 0 [l0, l1, some y2, l3] r (σ, sz, k, c) = (zk_isr y2 ∧ zk_run E (zk_VT E) M_L_ruleOf (C_L_ruleOf E) P PX K n 1 [l0, l1, some y2, l3] (y2 :: r) (σ, sz, k, c))) ∧
  (∀ (n : Nat) (l0 l1 l2 l3 : Option Value)  (r : List Value) (σ : zk_S) (sz k c : Nat), zk_run E (zk_VT E) M_L_ruleOf (C_L_ruleOf E) P PX K (n + 1) 1 [l0, l1, l2, l3] r (σ, sz, k, c) = zk_run E (zk_VT E) M_L_ruleOf (C_L_ruleOf E) P PX K n 2 [l0, l1, l2, l3] (.int (0) :: r) (σ, sz, k, c)) ∧
  (∀ (n : Nat) (l1 l2 l3 : Option Value) (y0 : Value) (r : List Value) (σ : zk_S) (sz k c : Nat), zk_run E (zk_VT E) M_L_ruleOf (C_L_ruleOf E) P PX K (n + 1) 2 [some y0, l1, l2, l3] r (σ, sz, k, c) = (zk_isr y0 ∧ zk_run E (zk_VT E) M_L_ruleOf (C_L_ruleOf E) P PX K n 3 [some y0, l1, l2, l3] (y0 :: r) (σ, sz, k, c))) ∧
  (∀ (n : Nat) (l0 l2 l3 : Option Value) (y1 : Int32) (r : List Value) (σ : zk_S) (sz k c : Nat), zk_run E (zk_VT E) M_L_ruleOf (C_L_ruleOf E) P PX K (n + 1) 3 [l0, some (.int y1), l2, l3] r (σ, sz, k, c) = zk_run E (zk_VT E) M_L_ruleOf (C_L_ruleOf E) P PX K n 4 [l0, some (.int y1), l2, l3] (.int y1 :: r) (σ, sz, k, c)) ∧
  (∀ (n : Nat) (l0 l1 l2 l3 : Option Value) (v0 : Value) (v1 : Value) (v2 : Value) (v3 : Value)  (σ : zk_S) (sz k c : Nat), zk_run E (zk_VT E) M_L_ruleOf (C_L_ruleOf E) P PX K (n + 1) 4 [l0, l1, l2, l3] [v0, v1, v2, v3] (σ, sz, k, c) = (k + 1 ≤ 1 ∧ c + 6 ≤ 6 ∧ (zk_rv (zk_VT E) (fun ci => Nat.beq ci 9) (sp_X10_ruleOf E)) [v1, v0] σ sz (fun v s2 z2 => zk_run E (zk_VT E) M_L_ruleOf (C_L_ruleOf E) P PX K n 7 [l0, l1, l2, l3] (zk_psh v [v2, v3]) (s2, z2, k + 1, c + 6)) (fun X s2 z2 => (match (match Nat.beq 4 4 with
  | true => if X = "java/lang/IndexOutOfBoundsException" then some 12 else none
  | false => none : Option Nat) with
    | some hp => ∀ q : Nat, zk_run E (zk_VT E) M_L_ruleOf (C_L_ruleOf E) P PX K n hp [l0, l1, l2, l3] [.ref q] (s2, z2, k + 1, c + 6)
    | none => PX X s2 z2)))) ∧
  (∀ (n : Nat) (l0 l1 l2 l3 : Option Value) (x : Int32) (r : List Value) (σ : zk_S) (sz k c : Nat), zk_run E (zk_VT E) M_L_ruleOf (C_L_ruleOf E) P PX K (n + 1) 7 [l0, l1, l2, l3] (.int x :: r) (σ, sz, k, c) = zk_run E (zk_VT E) M_L_ruleOf (C_L_ruleOf E) P PX K n 8 [l0, l1, l2, l3] (.long (x.toInt64) :: r) (σ, sz, k, c)) ∧
  (∀ (n : Nat) (l0 l1 l2 l3 : Option Value) (a : Nat) (i : Int32) (x : Int64) (r : List Value) (σ : zk_S) (sz k c : Nat), zk_run E (zk_VT E) M_L_ruleOf (C_L_ruleOf E) P PX K (n + 1) 8 [l0, l1, l2, l3] (.long x :: .int i :: .ref a :: r) (σ, sz, k, c) = zk_lst (zk_view E σ a) (zk_ar E 2) i x (fun e => zk_wrok E σ a e ∧ zk_run E (zk_VT E) M_L_ruleOf (C_L_ruleOf E) P PX K n 9 [l0, l1, l2, l3] r (zk_wr E σ a e, sz, k, c))) ∧
  (∀ (n : Nat) (l0 l1 l2 l3 : Option Value)  (r : List Value) (σ : zk_S) (sz k c : Nat), zk_run E (zk_VT E) M_L_ruleOf (C_L_ruleOf E) P PX K (n + 1) 9 [l0, l1, l2, l3] r (σ, sz, k, c) = zk_run E (zk_VT E) M_L_ruleOf (C_L_ruleOf E) P PX K n 15 [l0, l1, l2, l3] r (σ, sz, k, c)) ∧
  (∀ (n : Nat) (l0 l1 l2 l3 : Option Value) (x : Value) (r : List Value) (σ : zk_S) (sz k c : Nat), zk_run E (zk_VT E) M_L_ruleOf (C_L_ruleOf E) P PX K (n + 1) 12 [l0, l1, l2, l3] (x :: r) (σ, sz, k, c) = (zk_isr x ∧ zk_run E (zk_VT E) M_L_ruleOf (C_L_ruleOf E) P PX K n 13 [l0, l1, zk_kl l2, some (x)] r (σ, sz, k, c))) ∧
  (∀ (n : Nat) (l0 l1 l2 l3 : Option Value)  (r : List Value) (σ : zk_S) (sz k c : Nat), zk_run E (zk_VT E) M_L_ruleOf (C_L_ruleOf E) P PX K (n + 1) 13 [l0, l1, l2, l3] r (σ, sz, k, c) = zk_run E (zk_VT E) M_L_ruleOf (C_L_ruleOf E) P PX K n 14 [l0, l1, l2, l3] (.int (1) :: r) (σ, sz, k, c)) ∧
  (∀ (n : Nat) (l0 l1 l2 l3 : Option Value) (x : Int32)  (σ : zk_S) (sz k c : Nat), zk_run E (zk_VT E) M_L_ruleOf (C_L_ruleOf E) P PX K (n + 1) 14 [l0, l1, l2, l3] [.int x] (σ, sz, k, c) = (zk_nok (some (.int)) x ∧ P (some (.int x)) σ sz ∧ k ≤ 1 ∧ c ≤ 6)) ∧
  (∀ (n : Nat) (l0 l1 l2 l3 : Option Value)  (r : List Value) (σ : zk_S) (sz k c : Nat), zk_run E (zk_VT E) M_L_ruleOf (C_L_ruleOf E) P PX K (n + 1) 15 [l0, l1, l2, l3] r (σ, sz, k, c) = zk_run E (zk_VT E) M_L_ruleOf (C_L_ruleOf E) P PX K n 16 [l0, l1, l2, l3] (.int (0) :: r) (σ, sz, k, c)) ∧
  (∀ (n : Nat) (l0 l1 l2 l3 : Option Value) (x : Int32)  (σ : zk_S) (sz k c : Nat), zk_run E (zk_VT E) M_L_ruleOf (C_L_ruleOf E) P PX K (n + 1) 16 [l0, l1, l2, l3] [.int x] (σ, sz, k, c) = (zk_nok (some (.int)) x ∧ P (some (.int x)) σ sz ∧ k ≤ 1 ∧ c ≤ 6)) ∧
  (∀ (n : Nat) (l0 l1 l2 l3 : Option Value) (r : List Value) (w : zk_W zk_S), zk_go E (zk_VT E) M_L_ruleOf (C_L_ruleOf E) P PX K n 0 [l0, l1, l2, l3] r w = zk_run E (zk_VT E) M_L_ruleOf (C_L_ruleOf E) P PX K (n + 1) 0 [l0, l1, l2, l3] r w) := ⟨by intros; rfl, by intros; rfl, by intros; rfl, by intros; rfl, by intros; rfl, by intros; rfl, by intros; rfl, by intros; rfl, by intros; rfl, by intros; rfl, by intros; rfl, by intros; rfl, by intros; rfl, by intros; rfl⟩
set_option maxHeartbeats 4000000 in
theorem vc_L_ruleOf (E : zk_E) : zk_VCH E (zk_VT E) M_L_ruleOf (C_L_ruleOf E) 4 (sp_L_ruleOf E) := by
  intro av σ sz P h
  obtain ⟨J, N, Q, O, U⟩ := σ
  unfold sp_L_ruleOf at h
  split at h
  case h_2 => exact h.elim
  rename_i a i o
  refine ⟨Nat.le_of_ble_eq_true rfl, fun G hG => ?_⟩
  change G 0 [some (.ref a), some (.int i), some (.ref o), none] [] ((J, N, Q, O, U), sz, 0, 0)
  try dsimp only at h
  obtain ⟨rfl, rfl, hli, h⟩ := h
  have hms := hli.2.1.1
  unfold R_ruleOf at h
  dsimp only at h
  (refine hG 900 _ _ _ _ ?_; simp only [r_L_ruleOf, zk_kl_none, zk_kl_int, zk_kl_ref, zk_kl_null, zk_kl_long, zk_kl_rf, zk_isr_ref, zk_isr_null, zk_isr_rf9, zk_c1_int, zk_c1_ref, zk_c1_null, zk_c1_rf, zk_psh_some, zk_psh_none, zk_nok_int, zk_nok_bool0, zk_nok_bool1, zk_nok_b, zk_fok_0, zk_fok_1, zk_fok_2, zk_fok_n, zk_fok_rf, zb_f, zb_p, zb_i, zb_a, zb_s, zk_nth_0, zk_nth_s, zk_fld_o, zk_put_o, zk_rv_eq, zk_ri_eq, zk_is_o, List.mem_cons, List.not_mem_nil, or_false, false_or, or_true, true_or, and_true, true_and, not_false_iff, not_true_eq_false, true_implies, false_implies, imp_self, implies_true, forall_const, zk_lit, zk_uj_ap, zk_un_ap, zk_un_un, zk_uj_uj, Nat.reduceEqDiff, eq_self, zk_bq, Bool.true_or, Bool.false_or, Nat.le_refl, Nat.zero_add, Nat.add_zero, Nat.reduceAdd, Nat.reduceLeDiff, Nat.le_zero_eq, and_self, and_false, false_and, ite_true, ite_false, Nat.zero_le, List.length_cons, List.length_nil, Option.some.injEq, forall_eq', reduceCtorEq, spe_X10_ruleOf])
  refine ⟨J, N, hli.2, ?_⟩
  refine ⟨fun hc => ?_, fun hc => ?_⟩
  · intro J2 N2 z2 hke hcf hz
    simp only [r_L_ruleOf, zk_kl_none, zk_kl_int, zk_kl_ref, zk_kl_null, zk_kl_long, zk_kl_rf, zk_isr_ref, zk_isr_null, zk_isr_rf9, zk_c1_int, zk_c1_ref, zk_c1_null, zk_c1_rf, zk_psh_some, zk_psh_none, zk_nok_int, zk_nok_bool0, zk_nok_bool1, zk_nok_b, zk_fok_0, zk_fok_1, zk_fok_2, zk_fok_n, zk_fok_rf, zb_f, zb_p, zb_i, zb_a, zb_s, zk_nth_0, zk_nth_s, zk_fld_o, zk_put_o, zk_rv_eq, zk_ri_eq, zk_is_o, List.mem_cons, List.not_mem_nil, or_false, false_or, or_true, true_or, and_true, true_and, not_false_iff, not_true_eq_false, true_implies, false_implies, imp_self, implies_true, forall_const, zk_lit, zk_uj_ap, zk_un_ap, zk_un_un, zk_uj_uj, Nat.reduceEqDiff, eq_self, zk_bq, Bool.true_or, Bool.false_or, Nat.le_refl, Nat.zero_add, Nat.add_zero, Nat.reduceAdd, Nat.reduceLeDiff, Nat.le_zero_eq, and_self, and_false, false_and, ite_true, ite_false, Nat.zero_le, List.length_cons, List.length_nil, Option.some.injEq, forall_eq', reduceCtorEq, hc_q, hc_s, hc_v, hc_i]
    exact h 1 _ _ (Or.inl ⟨hc, ⟨rfl, LC.ke hli hke hcf hz⟩⟩)
  · intro J2 N2 hke hcf
    simp only [r_L_ruleOf, zk_kl_none, zk_kl_int, zk_kl_ref, zk_kl_null, zk_kl_long, zk_kl_rf, zk_isr_ref, zk_isr_null, zk_isr_rf9, zk_c1_int, zk_c1_ref, zk_c1_null, zk_c1_rf, zk_psh_some, zk_psh_none, zk_nok_int, zk_nok_bool0, zk_nok_bool1, zk_nok_b, zk_fok_0, zk_fok_1, zk_fok_2, zk_fok_n, zk_fok_rf, zb_f, zb_p, zb_i, zb_a, zb_s, zk_nth_0, zk_nth_s, zk_fld_o, zk_put_o, zk_rv_eq, zk_ri_eq, zk_is_o, List.mem_cons, List.not_mem_nil, or_false, false_or, or_true, true_or, and_true, true_and, not_false_iff, not_true_eq_false, true_implies, false_implies, imp_self, implies_true, forall_const, zk_lit, zk_uj_ap, zk_un_ap, zk_un_un, zk_uj_uj, Nat.reduceEqDiff, eq_self, zk_bq, Bool.true_or, Bool.false_or, Nat.le_refl, Nat.zero_add, Nat.add_zero, Nat.reduceAdd, Nat.reduceLeDiff, Nat.le_zero_eq, and_self, and_false, false_and, ite_true, ite_false, Nat.zero_le, List.length_cons, List.length_nil, Option.some.injEq, forall_eq', reduceCtorEq, hc_q, hc_s, hc_v, hc_i]
    exact h 0 _ _ (Or.inr ⟨hc, ⟨⟨rfl, up_L U _⟩, LC.ke hli hke hcf (Nat.le_refl _)⟩⟩)
def hh_L_ruleOf : List (Nat × Nat × Nat × Nat) := [(0, 9, 12, 21)]
theorem HO_L_ruleOf : zk_HO RL hh_L_ruleOf M_L_ruleOf := by
  intro pc X hp h
  have h2 : (match Nat.beq pc 4 with | true => (if X = "java/lang/IndexOutOfBoundsException" then some 12 else none) | false => none : Option Nat) = some hp := h
  clear h
  split at h2
  · rename_i e
    have e := Nat.eq_of_beq_eq_true e
    subst e
    by_cases e0 : X = "java/lang/IndexOutOfBoundsException"
    · subst e0
      rw [if_pos rfl] at h2
      cases h2
      exact ⟨[], ⟨0, 9, 12, 21⟩, [], rfl, fun _ h => absurd h List.not_mem_nil, by decide, by decide, rfl, "java/lang/IndexOutOfBoundsException", zk_wi 545 (by decide +kernel) rfl, zk_tb 556 (by decide +kernel)⟩
    rw [if_neg e0] at h2
    cases h2
  · cases h2
theorem ct_L_ruleOf {l : Launch} (hl : l.stackTraces = false) (E : zk_E) : zk_CH l E (zk_VT E) yL_ruleOf cL_ruleOf 4 (some (.int)) hh_L_ruleOf rm_L_ruleOf (sp_L_ruleOf E) := by
  refine zk_methH (M := M_L_ruleOf) (C := C_L_ruleOf E) (by decide +kernel) rfl HO_L_ruleOf (zk_VT_ok E) MO_L_ruleOf TO_L_ruleOf (fun _ => rfl) ?_ (vc_L_ruleOf E)
  exact fun p e s m args below meth c X pc n mc ms sp2 h => by
    have h2 := zk_lka_mem h
    simp only [List.mem_cons, List.not_mem_nil, or_false, Prod.mk.injEq] at h2
    rcases h2 with ⟨rfl, rfl, rfl, rfl, rfl⟩
    exact zk_coV (idx := 89) X (ct_X10_ruleOf hl E) (List.forall_mem_cons.mpr ⟨zk_wi 904 (by decide +kernel) rfl, List.forall_mem_cons.mpr ⟨zk_wi 905 (by decide +kernel) rfl, List.forall_mem_cons.mpr ⟨zk_wi 906 (by decide +kernel) rfl, List.forall_mem_cons.mpr ⟨zk_wi 1 (by decide +kernel) rfl, List.forall_mem_cons.mpr ⟨zk_wi 907 (by decide +kernel) rfl, fun _ h => absurd h List.not_mem_nil⟩⟩⟩⟩⟩) (fun ci h => by
      have h := Nat.eq_of_beq_eq_true h
      subst h
      exact ⟨_, _, rfl⟩) (by decide +kernel) ⟨by decide, by decide, by decide +kernel⟩ ⟨by decide, by decide⟩
def R_whereOf (E : zk_E) (σ : zk_S) (sz : Nat) (i : Int32) (k : Int32) (σ2 : zk_S) (sz2 : Nat) : Prop := CD (m_isIn i 0 (nI (a_faults σ.1 σ.2.1) - 1)) (WN E σ sz σ2 sz2 k 1) (WO E σ sz σ2 sz2 k (a_fq σ.1 σ.2.1 i.toNatClampNeg 1).toInt64 σ.1 σ.2.1)
def sp_L_whereOf (E : zk_E) : zk_Sp zk_S := fun av σ sz P PX => match av with
  | [.ref a, .int i, .ref o] => a = zk_ad E 0 ∧ o = zk_ad E 54 ∧ LI E sz σ ∧ ∀ k σ2 sz2, R_whereOf E σ sz i k σ2 sz2 → P (some (.int k)) σ2 sz2
  | _ => False
theorem spe_L_whereOf (E : zk_E) (a : Nat) (i : Int32) (o : Nat) (σ : zk_S) (sz : Nat) (P : zk_P zk_S) (PX : zk_X zk_S) : sp_L_whereOf E [.ref a, .int i, .ref o] σ sz P PX = (a = zk_ad E 0 ∧ o = zk_ad E 54 ∧ LI E sz σ ∧ ∀ k σ2 sz2, R_whereOf E σ sz i k σ2 sz2 → P (some (.int k)) σ2 sz2) := propext Iff.rfl
def C_L_whereOf (E : zk_E) : zk_Cl zk_S := zk_lka [(4, 2, 1, 6, zk_rv (zk_VT E) (fun ci => Nat.beq ci 9) (sp_X10_whereOf E))]
theorem r_L_whereOf (E : zk_E) (P : zk_P zk_S) (PX : zk_X zk_S) (K : Nat → zk_L → List Value → zk_W zk_S → Prop) : (∀ (n : Nat) (l0 l1 l3 : Option Value) (y2 : Value) (r : List Value) (σ : zk_S) (sz k c : Nat), zk_run E (zk_VT E) M_L_whereOf (C_L_whereOf E) P PX K (n + 1) 0 [l0, l1, some y2, l3] r (σ, sz, k, c) = (zk_isr y2 ∧ zk_run E (zk_VT E) M_L_whereOf (C_L_whereOf E) P PX K n 1 [l0, l1, some y2, l3] (y2 :: r) (σ, sz, k, c))) ∧
  (∀ (n : Nat) (l0 l1 l2 l3 : Option Value)  (r : List Value) (σ : zk_S) (sz k c : Nat), zk_run E (zk_VT E) M_L_whereOf (C_L_whereOf E) P PX K (n + 1) 1 [l0, l1, l2, l3] r (σ, sz, k, c) = zk_run E (zk_VT E) M_L_whereOf (C_L_whereOf E) P PX K n 2 [l0, l1, l2, l3] (.int (0) :: r) (σ, sz, k, c)) ∧
  (∀ (n : Nat) (l1 l2 l3 : Option Value) (y0 : Value) (r : List Value) (σ : zk_S) (sz k c : Nat), zk_run E (zk_VT E) M_L_whereOf (C_L_whereOf E) P PX K (n + 1) 2 [some y0, l1, l2, l3] r (σ, sz, k, c) = (zk_isr y0 ∧ zk_run E (zk_VT E) M_L_whereOf (C_L_whereOf E) P PX K n 3 [some y0, l1, l2, l3] (y0 :: r) (σ, sz, k, c))) ∧
  (∀ (n : Nat) (l0 l2 l3 : Option Value) (y1 : Int32) (r : List Value) (σ : zk_S) (sz k c : Nat), zk_run E (zk_VT E) M_L_whereOf (C_L_whereOf E) P PX K (n + 1) 3 [l0, some (.int y1), l2, l3] r (σ, sz, k, c) = zk_run E (zk_VT E) M_L_whereOf (C_L_whereOf E) P PX K n 4 [l0, some (.int y1), l2, l3] (.int y1 :: r) (σ, sz, k, c)) ∧
  (∀ (n : Nat) (l0 l1 l2 l3 : Option Value) (v0 : Value) (v1 : Value) (v2 : Value) (v3 : Value)  (σ : zk_S) (sz k c : Nat), zk_run E (zk_VT E) M_L_whereOf (C_L_whereOf E) P PX K (n + 1) 4 [l0, l1, l2, l3] [v0, v1, v2, v3] (σ, sz, k, c) = (k + 1 ≤ 1 ∧ c + 6 ≤ 6 ∧ (zk_rv (zk_VT E) (fun ci => Nat.beq ci 9) (sp_X10_whereOf E)) [v1, v0] σ sz (fun v s2 z2 => zk_run E (zk_VT E) M_L_whereOf (C_L_whereOf E) P PX K n 7 [l0, l1, l2, l3] (zk_psh v [v2, v3]) (s2, z2, k + 1, c + 6)) (fun X s2 z2 => (match (match Nat.beq 4 4 with
  | true => if X = "java/lang/IndexOutOfBoundsException" then some 12 else none
  | false => none : Option Nat) with
    | some hp => ∀ q : Nat, zk_run E (zk_VT E) M_L_whereOf (C_L_whereOf E) P PX K n hp [l0, l1, l2, l3] [.ref q] (s2, z2, k + 1, c + 6)
    | none => PX X s2 z2)))) ∧
  (∀ (n : Nat) (l0 l1 l2 l3 : Option Value) (x : Int32) (r : List Value) (σ : zk_S) (sz k c : Nat), zk_run E (zk_VT E) M_L_whereOf (C_L_whereOf E) P PX K (n + 1) 7 [l0, l1, l2, l3] (.int x :: r) (σ, sz, k, c) = zk_run E (zk_VT E) M_L_whereOf (C_L_whereOf E) P PX K n 8 [l0, l1, l2, l3] (.long (x.toInt64) :: r) (σ, sz, k, c)) ∧
  (∀ (n : Nat) (l0 l1 l2 l3 : Option Value) (a : Nat) (i : Int32) (x : Int64) (r : List Value) (σ : zk_S) (sz k c : Nat), zk_run E (zk_VT E) M_L_whereOf (C_L_whereOf E) P PX K (n + 1) 8 [l0, l1, l2, l3] (.long x :: .int i :: .ref a :: r) (σ, sz, k, c) = zk_lst (zk_view E σ a) (zk_ar E 2) i x (fun e => zk_wrok E σ a e ∧ zk_run E (zk_VT E) M_L_whereOf (C_L_whereOf E) P PX K n 9 [l0, l1, l2, l3] r (zk_wr E σ a e, sz, k, c))) ∧
  (∀ (n : Nat) (l0 l1 l2 l3 : Option Value)  (r : List Value) (σ : zk_S) (sz k c : Nat), zk_run E (zk_VT E) M_L_whereOf (C_L_whereOf E) P PX K (n + 1) 9 [l0, l1, l2, l3] r (σ, sz, k, c) = zk_run E (zk_VT E) M_L_whereOf (C_L_whereOf E) P PX K n 15 [l0, l1, l2, l3] r (σ, sz, k, c)) ∧
  (∀ (n : Nat) (l0 l1 l2 l3 : Option Value) (x : Value) (r : List Value) (σ : zk_S) (sz k c : Nat), zk_run E (zk_VT E) M_L_whereOf (C_L_whereOf E) P PX K (n + 1) 12 [l0, l1, l2, l3] (x :: r) (σ, sz, k, c) = (zk_isr x ∧ zk_run E (zk_VT E) M_L_whereOf (C_L_whereOf E) P PX K n 13 [l0, l1, zk_kl l2, some (x)] r (σ, sz, k, c))) ∧
  (∀ (n : Nat) (l0 l1 l2 l3 : Option Value)  (r : List Value) (σ : zk_S) (sz k c : Nat), zk_run E (zk_VT E) M_L_whereOf (C_L_whereOf E) P PX K (n + 1) 13 [l0, l1, l2, l3] r (σ, sz, k, c) = zk_run E (zk_VT E) M_L_whereOf (C_L_whereOf E) P PX K n 14 [l0, l1, l2, l3] (.int (1) :: r) (σ, sz, k, c)) ∧
  (∀ (n : Nat) (l0 l1 l2 l3 : Option Value) (x : Int32)  (σ : zk_S) (sz k c : Nat), zk_run E (zk_VT E) M_L_whereOf (C_L_whereOf E) P PX K (n + 1) 14 [l0, l1, l2, l3] [.int x] (σ, sz, k, c) = (zk_nok (some (.int)) x ∧ P (some (.int x)) σ sz ∧ k ≤ 1 ∧ c ≤ 6)) ∧
  (∀ (n : Nat) (l0 l1 l2 l3 : Option Value)  (r : List Value) (σ : zk_S) (sz k c : Nat), zk_run E (zk_VT E) M_L_whereOf (C_L_whereOf E) P PX K (n + 1) 15 [l0, l1, l2, l3] r (σ, sz, k, c) = zk_run E (zk_VT E) M_L_whereOf (C_L_whereOf E) P PX K n 16 [l0, l1, l2, l3] (.int (0) :: r) (σ, sz, k, c)) ∧
  (∀ (n : Nat) (l0 l1 l2 l3 : Option Value) (x : Int32)  (σ : zk_S) (sz k c : Nat), zk_run E (zk_VT E) M_L_whereOf (C_L_whereOf E) P PX K (n + 1) 16 [l0, l1, l2, l3] [.int x] (σ, sz, k, c) = (zk_nok (some (.int)) x ∧ P (some (.int x)) σ sz ∧ k ≤ 1 ∧ c ≤ 6)) ∧
  (∀ (n : Nat) (l0 l1 l2 l3 : Option Value) (r : List Value) (w : zk_W zk_S), zk_go E (zk_VT E) M_L_whereOf (C_L_whereOf E) P PX K n 0 [l0, l1, l2, l3] r w = zk_run E (zk_VT E) M_L_whereOf (C_L_whereOf E) P PX K (n + 1) 0 [l0, l1, l2, l3] r w) := ⟨by intros; rfl, by intros; rfl, by intros; rfl, by intros; rfl, by intros; rfl, by intros; rfl, by intros; rfl, by intros; rfl, by intros; rfl, by intros; rfl, by intros; rfl, by intros; rfl, by intros; rfl, by intros; rfl⟩
set_option maxHeartbeats 4000000 in
theorem vc_L_whereOf (E : zk_E) : zk_VCH E (zk_VT E) M_L_whereOf (C_L_whereOf E) 4 (sp_L_whereOf E) := by
  intro av σ sz P h
  obtain ⟨J, N, Q, O, U⟩ := σ
  unfold sp_L_whereOf at h
  split at h
  case h_2 => exact h.elim
  rename_i a i o
  refine ⟨Nat.le_of_ble_eq_true rfl, fun G hG => ?_⟩
  change G 0 [some (.ref a), some (.int i), some (.ref o), none] [] ((J, N, Q, O, U), sz, 0, 0)
  try dsimp only at h
  obtain ⟨rfl, rfl, hli, h⟩ := h
  have hms := hli.2.1.1
  unfold R_whereOf at h
  dsimp only at h
  (refine hG 900 _ _ _ _ ?_; simp only [r_L_whereOf, zk_kl_none, zk_kl_int, zk_kl_ref, zk_kl_null, zk_kl_long, zk_kl_rf, zk_isr_ref, zk_isr_null, zk_isr_rf9, zk_c1_int, zk_c1_ref, zk_c1_null, zk_c1_rf, zk_psh_some, zk_psh_none, zk_nok_int, zk_nok_bool0, zk_nok_bool1, zk_nok_b, zk_fok_0, zk_fok_1, zk_fok_2, zk_fok_n, zk_fok_rf, zb_f, zb_p, zb_i, zb_a, zb_s, zk_nth_0, zk_nth_s, zk_fld_o, zk_put_o, zk_rv_eq, zk_ri_eq, zk_is_o, List.mem_cons, List.not_mem_nil, or_false, false_or, or_true, true_or, and_true, true_and, not_false_iff, not_true_eq_false, true_implies, false_implies, imp_self, implies_true, forall_const, zk_lit, zk_uj_ap, zk_un_ap, zk_un_un, zk_uj_uj, Nat.reduceEqDiff, eq_self, zk_bq, Bool.true_or, Bool.false_or, Nat.le_refl, Nat.zero_add, Nat.add_zero, Nat.reduceAdd, Nat.reduceLeDiff, Nat.le_zero_eq, and_self, and_false, false_and, ite_true, ite_false, Nat.zero_le, List.length_cons, List.length_nil, Option.some.injEq, forall_eq', reduceCtorEq, spe_X10_whereOf])
  refine ⟨J, N, hli.2, ?_⟩
  refine ⟨fun hc => ?_, fun hc => ?_⟩
  · intro J2 N2 z2 hke hcf hz
    simp only [r_L_whereOf, zk_kl_none, zk_kl_int, zk_kl_ref, zk_kl_null, zk_kl_long, zk_kl_rf, zk_isr_ref, zk_isr_null, zk_isr_rf9, zk_c1_int, zk_c1_ref, zk_c1_null, zk_c1_rf, zk_psh_some, zk_psh_none, zk_nok_int, zk_nok_bool0, zk_nok_bool1, zk_nok_b, zk_fok_0, zk_fok_1, zk_fok_2, zk_fok_n, zk_fok_rf, zb_f, zb_p, zb_i, zb_a, zb_s, zk_nth_0, zk_nth_s, zk_fld_o, zk_put_o, zk_rv_eq, zk_ri_eq, zk_is_o, List.mem_cons, List.not_mem_nil, or_false, false_or, or_true, true_or, and_true, true_and, not_false_iff, not_true_eq_false, true_implies, false_implies, imp_self, implies_true, forall_const, zk_lit, zk_uj_ap, zk_un_ap, zk_un_un, zk_uj_uj, Nat.reduceEqDiff, eq_self, zk_bq, Bool.true_or, Bool.false_or, Nat.le_refl, Nat.zero_add, Nat.add_zero, Nat.reduceAdd, Nat.reduceLeDiff, Nat.le_zero_eq, and_self, and_false, false_and, ite_true, ite_false, Nat.zero_le, List.length_cons, List.length_nil, Option.some.injEq, forall_eq', reduceCtorEq, hc_q, hc_s, hc_v, hc_i]
    exact h 1 _ _ (Or.inl ⟨hc, ⟨rfl, LC.ke hli hke hcf hz⟩⟩)
  · intro J2 N2 hke hcf
    simp only [r_L_whereOf, zk_kl_none, zk_kl_int, zk_kl_ref, zk_kl_null, zk_kl_long, zk_kl_rf, zk_isr_ref, zk_isr_null, zk_isr_rf9, zk_c1_int, zk_c1_ref, zk_c1_null, zk_c1_rf, zk_psh_some, zk_psh_none, zk_nok_int, zk_nok_bool0, zk_nok_bool1, zk_nok_b, zk_fok_0, zk_fok_1, zk_fok_2, zk_fok_n, zk_fok_rf, zb_f, zb_p, zb_i, zb_a, zb_s, zk_nth_0, zk_nth_s, zk_fld_o, zk_put_o, zk_rv_eq, zk_ri_eq, zk_is_o, List.mem_cons, List.not_mem_nil, or_false, false_or, or_true, true_or, and_true, true_and, not_false_iff, not_true_eq_false, true_implies, false_implies, imp_self, implies_true, forall_const, zk_lit, zk_uj_ap, zk_un_ap, zk_un_un, zk_uj_uj, Nat.reduceEqDiff, eq_self, zk_bq, Bool.true_or, Bool.false_or, Nat.le_refl, Nat.zero_add, Nat.add_zero, Nat.reduceAdd, Nat.reduceLeDiff, Nat.le_zero_eq, and_self, and_false, false_and, ite_true, ite_false, Nat.zero_le, List.length_cons, List.length_nil, Option.some.injEq, forall_eq', reduceCtorEq, hc_q, hc_s, hc_v, hc_i]
    exact h 0 _ _ (Or.inr ⟨hc, ⟨⟨rfl, up_L U _⟩, LC.ke hli hke hcf (Nat.le_refl _)⟩⟩)
def hh_L_whereOf : List (Nat × Nat × Nat × Nat) := [(0, 9, 12, 21)]
theorem HO_L_whereOf : zk_HO RL hh_L_whereOf M_L_whereOf := by
  intro pc X hp h
  have h2 : (match Nat.beq pc 4 with | true => (if X = "java/lang/IndexOutOfBoundsException" then some 12 else none) | false => none : Option Nat) = some hp := h
  clear h
  split at h2
  · rename_i e
    have e := Nat.eq_of_beq_eq_true e
    subst e
    by_cases e0 : X = "java/lang/IndexOutOfBoundsException"
    · subst e0
      rw [if_pos rfl] at h2
      cases h2
      exact ⟨[], ⟨0, 9, 12, 21⟩, [], rfl, fun _ h => absurd h List.not_mem_nil, by decide, by decide, rfl, "java/lang/IndexOutOfBoundsException", zk_wi 545 (by decide +kernel) rfl, zk_tb 556 (by decide +kernel)⟩
    rw [if_neg e0] at h2
    cases h2
  · cases h2
theorem ct_L_whereOf {l : Launch} (hl : l.stackTraces = false) (E : zk_E) : zk_CH l E (zk_VT E) yL_whereOf cL_whereOf 4 (some (.int)) hh_L_whereOf rm_L_whereOf (sp_L_whereOf E) := by
  refine zk_methH (M := M_L_whereOf) (C := C_L_whereOf E) (by decide +kernel) rfl HO_L_whereOf (zk_VT_ok E) MO_L_whereOf TO_L_whereOf (fun _ => rfl) ?_ (vc_L_whereOf E)
  exact fun p e s m args below meth c X pc n mc ms sp2 h => by
    have h2 := zk_lka_mem h
    simp only [List.mem_cons, List.not_mem_nil, or_false, Prod.mk.injEq] at h2
    rcases h2 with ⟨rfl, rfl, rfl, rfl, rfl⟩
    exact zk_coV (idx := 92) X (ct_X10_whereOf hl E) (List.forall_mem_cons.mpr ⟨zk_wi 916 (by decide +kernel) rfl, List.forall_mem_cons.mpr ⟨zk_wi 917 (by decide +kernel) rfl, List.forall_mem_cons.mpr ⟨zk_wi 918 (by decide +kernel) rfl, List.forall_mem_cons.mpr ⟨zk_wi 1 (by decide +kernel) rfl, List.forall_mem_cons.mpr ⟨zk_wi 919 (by decide +kernel) rfl, fun _ h => absurd h List.not_mem_nil⟩⟩⟩⟩⟩) (fun ci h => by
      have h := Nat.eq_of_beq_eq_true h
      subst h
      exact ⟨_, _, rfl⟩) (by decide +kernel) ⟨by decide, by decide, by decide +kernel⟩ ⟨by decide, by decide⟩
def R_howMuch (E : zk_E) (σ : zk_S) (sz : Nat) (i : Int32) (k : Int32) (σ2 : zk_S) (sz2 : Nat) : Prop := CD (m_isIn i 0 (nI (a_faults σ.1 σ.2.1) - 1)) (WN E σ sz σ2 sz2 k 1) (WO E σ sz σ2 sz2 k (a_fq σ.1 σ.2.1 i.toNatClampNeg 2).toInt64 σ.1 σ.2.1)
def sp_L_howMuch (E : zk_E) : zk_Sp zk_S := fun av σ sz P PX => match av with
  | [.ref a, .int i, .ref o] => a = zk_ad E 0 ∧ o = zk_ad E 54 ∧ LI E sz σ ∧ ∀ k σ2 sz2, R_howMuch E σ sz i k σ2 sz2 → P (some (.int k)) σ2 sz2
  | _ => False
theorem spe_L_howMuch (E : zk_E) (a : Nat) (i : Int32) (o : Nat) (σ : zk_S) (sz : Nat) (P : zk_P zk_S) (PX : zk_X zk_S) : sp_L_howMuch E [.ref a, .int i, .ref o] σ sz P PX = (a = zk_ad E 0 ∧ o = zk_ad E 54 ∧ LI E sz σ ∧ ∀ k σ2 sz2, R_howMuch E σ sz i k σ2 sz2 → P (some (.int k)) σ2 sz2) := propext Iff.rfl
def C_L_howMuch (E : zk_E) : zk_Cl zk_S := zk_lka [(4, 2, 1, 6, zk_rv (zk_VT E) (fun ci => Nat.beq ci 9) (sp_X10_howMuch E))]
theorem r_L_howMuch (E : zk_E) (P : zk_P zk_S) (PX : zk_X zk_S) (K : Nat → zk_L → List Value → zk_W zk_S → Prop) : (∀ (n : Nat) (l0 l1 l3 : Option Value) (y2 : Value) (r : List Value) (σ : zk_S) (sz k c : Nat), zk_run E (zk_VT E) M_L_howMuch (C_L_howMuch E) P PX K (n + 1) 0 [l0, l1, some y2, l3] r (σ, sz, k, c) = (zk_isr y2 ∧ zk_run E (zk_VT E) M_L_howMuch (C_L_howMuch E) P PX K n 1 [l0, l1, some y2, l3] (y2 :: r) (σ, sz, k, c))) ∧
  (∀ (n : Nat) (l0 l1 l2 l3 : Option Value)  (r : List Value) (σ : zk_S) (sz k c : Nat), zk_run E (zk_VT E) M_L_howMuch (C_L_howMuch E) P PX K (n + 1) 1 [l0, l1, l2, l3] r (σ, sz, k, c) = zk_run E (zk_VT E) M_L_howMuch (C_L_howMuch E) P PX K n 2 [l0, l1, l2, l3] (.int (0) :: r) (σ, sz, k, c)) ∧
  (∀ (n : Nat) (l1 l2 l3 : Option Value) (y0 : Value) (r : List Value) (σ : zk_S) (sz k c : Nat), zk_run E (zk_VT E) M_L_howMuch (C_L_howMuch E) P PX K (n + 1) 2 [some y0, l1, l2, l3] r (σ, sz, k, c) = (zk_isr y0 ∧ zk_run E (zk_VT E) M_L_howMuch (C_L_howMuch E) P PX K n 3 [some y0, l1, l2, l3] (y0 :: r) (σ, sz, k, c))) ∧
  (∀ (n : Nat) (l0 l2 l3 : Option Value) (y1 : Int32) (r : List Value) (σ : zk_S) (sz k c : Nat), zk_run E (zk_VT E) M_L_howMuch (C_L_howMuch E) P PX K (n + 1) 3 [l0, some (.int y1), l2, l3] r (σ, sz, k, c) = zk_run E (zk_VT E) M_L_howMuch (C_L_howMuch E) P PX K n 4 [l0, some (.int y1), l2, l3] (.int y1 :: r) (σ, sz, k, c)) ∧
  (∀ (n : Nat) (l0 l1 l2 l3 : Option Value) (v0 : Value) (v1 : Value) (v2 : Value) (v3 : Value)  (σ : zk_S) (sz k c : Nat), zk_run E (zk_VT E) M_L_howMuch (C_L_howMuch E) P PX K (n + 1) 4 [l0, l1, l2, l3] [v0, v1, v2, v3] (σ, sz, k, c) = (k + 1 ≤ 1 ∧ c + 6 ≤ 6 ∧ (zk_rv (zk_VT E) (fun ci => Nat.beq ci 9) (sp_X10_howMuch E)) [v1, v0] σ sz (fun v s2 z2 => zk_run E (zk_VT E) M_L_howMuch (C_L_howMuch E) P PX K n 7 [l0, l1, l2, l3] (zk_psh v [v2, v3]) (s2, z2, k + 1, c + 6)) (fun X s2 z2 => (match (match Nat.beq 4 4 with
  | true => if X = "java/lang/IndexOutOfBoundsException" then some 12 else none
  | false => none : Option Nat) with
    | some hp => ∀ q : Nat, zk_run E (zk_VT E) M_L_howMuch (C_L_howMuch E) P PX K n hp [l0, l1, l2, l3] [.ref q] (s2, z2, k + 1, c + 6)
    | none => PX X s2 z2)))) ∧
  (∀ (n : Nat) (l0 l1 l2 l3 : Option Value) (x : Int32) (r : List Value) (σ : zk_S) (sz k c : Nat), zk_run E (zk_VT E) M_L_howMuch (C_L_howMuch E) P PX K (n + 1) 7 [l0, l1, l2, l3] (.int x :: r) (σ, sz, k, c) = zk_run E (zk_VT E) M_L_howMuch (C_L_howMuch E) P PX K n 8 [l0, l1, l2, l3] (.long (x.toInt64) :: r) (σ, sz, k, c)) ∧
  (∀ (n : Nat) (l0 l1 l2 l3 : Option Value) (a : Nat) (i : Int32) (x : Int64) (r : List Value) (σ : zk_S) (sz k c : Nat), zk_run E (zk_VT E) M_L_howMuch (C_L_howMuch E) P PX K (n + 1) 8 [l0, l1, l2, l3] (.long x :: .int i :: .ref a :: r) (σ, sz, k, c) = zk_lst (zk_view E σ a) (zk_ar E 2) i x (fun e => zk_wrok E σ a e ∧ zk_run E (zk_VT E) M_L_howMuch (C_L_howMuch E) P PX K n 9 [l0, l1, l2, l3] r (zk_wr E σ a e, sz, k, c))) ∧
  (∀ (n : Nat) (l0 l1 l2 l3 : Option Value)  (r : List Value) (σ : zk_S) (sz k c : Nat), zk_run E (zk_VT E) M_L_howMuch (C_L_howMuch E) P PX K (n + 1) 9 [l0, l1, l2, l3] r (σ, sz, k, c) = zk_run E (zk_VT E) M_L_howMuch (C_L_howMuch E) P PX K n 15 [l0, l1, l2, l3] r (σ, sz, k, c)) ∧
  (∀ (n : Nat) (l0 l1 l2 l3 : Option Value) (x : Value) (r : List Value) (σ : zk_S) (sz k c : Nat), zk_run E (zk_VT E) M_L_howMuch (C_L_howMuch E) P PX K (n + 1) 12 [l0, l1, l2, l3] (x :: r) (σ, sz, k, c) = (zk_isr x ∧ zk_run E (zk_VT E) M_L_howMuch (C_L_howMuch E) P PX K n 13 [l0, l1, zk_kl l2, some (x)] r (σ, sz, k, c))) ∧
  (∀ (n : Nat) (l0 l1 l2 l3 : Option Value)  (r : List Value) (σ : zk_S) (sz k c : Nat), zk_run E (zk_VT E) M_L_howMuch (C_L_howMuch E) P PX K (n + 1) 13 [l0, l1, l2, l3] r (σ, sz, k, c) = zk_run E (zk_VT E) M_L_howMuch (C_L_howMuch E) P PX K n 14 [l0, l1, l2, l3] (.int (1) :: r) (σ, sz, k, c)) ∧
  (∀ (n : Nat) (l0 l1 l2 l3 : Option Value) (x : Int32)  (σ : zk_S) (sz k c : Nat), zk_run E (zk_VT E) M_L_howMuch (C_L_howMuch E) P PX K (n + 1) 14 [l0, l1, l2, l3] [.int x] (σ, sz, k, c) = (zk_nok (some (.int)) x ∧ P (some (.int x)) σ sz ∧ k ≤ 1 ∧ c ≤ 6)) ∧
  (∀ (n : Nat) (l0 l1 l2 l3 : Option Value)  (r : List Value) (σ : zk_S) (sz k c : Nat), zk_run E (zk_VT E) M_L_howMuch (C_L_howMuch E) P PX K (n + 1) 15 [l0, l1, l2, l3] r (σ, sz, k, c) = zk_run E (zk_VT E) M_L_howMuch (C_L_howMuch E) P PX K n 16 [l0, l1, l2, l3] (.int (0) :: r) (σ, sz, k, c)) ∧
  (∀ (n : Nat) (l0 l1 l2 l3 : Option Value) (x : Int32)  (σ : zk_S) (sz k c : Nat), zk_run E (zk_VT E) M_L_howMuch (C_L_howMuch E) P PX K (n + 1) 16 [l0, l1, l2, l3] [.int x] (σ, sz, k, c) = (zk_nok (some (.int)) x ∧ P (some (.int x)) σ sz ∧ k ≤ 1 ∧ c ≤ 6)) ∧
  (∀ (n : Nat) (l0 l1 l2 l3 : Option Value) (r : List Value) (w : zk_W zk_S), zk_go E (zk_VT E) M_L_howMuch (C_L_howMuch E) P PX K n 0 [l0, l1, l2, l3] r w = zk_run E (zk_VT E) M_L_howMuch (C_L_howMuch E) P PX K (n + 1) 0 [l0, l1, l2, l3] r w) := ⟨by intros; rfl, by intros; rfl, by intros; rfl, by intros; rfl, by intros; rfl, by intros; rfl, by intros; rfl, by intros; rfl, by intros; rfl, by intros; rfl, by intros; rfl, by intros; rfl, by intros; rfl, by intros; rfl⟩
set_option maxHeartbeats 4000000 in
theorem vc_L_howMuch (E : zk_E) : zk_VCH E (zk_VT E) M_L_howMuch (C_L_howMuch E) 4 (sp_L_howMuch E) := by
  intro av σ sz P h
  obtain ⟨J, N, Q, O, U⟩ := σ
  unfold sp_L_howMuch at h
  split at h
  case h_2 => exact h.elim
  rename_i a i o
  refine ⟨Nat.le_of_ble_eq_true rfl, fun G hG => ?_⟩
  change G 0 [some (.ref a), some (.int i), some (.ref o), none] [] ((J, N, Q, O, U), sz, 0, 0)
  try dsimp only at h
  obtain ⟨rfl, rfl, hli, h⟩ := h
  have hms := hli.2.1.1
  unfold R_howMuch at h
  dsimp only at h
  (refine hG 900 _ _ _ _ ?_; simp only [r_L_howMuch, zk_kl_none, zk_kl_int, zk_kl_ref, zk_kl_null, zk_kl_long, zk_kl_rf, zk_isr_ref, zk_isr_null, zk_isr_rf9, zk_c1_int, zk_c1_ref, zk_c1_null, zk_c1_rf, zk_psh_some, zk_psh_none, zk_nok_int, zk_nok_bool0, zk_nok_bool1, zk_nok_b, zk_fok_0, zk_fok_1, zk_fok_2, zk_fok_n, zk_fok_rf, zb_f, zb_p, zb_i, zb_a, zb_s, zk_nth_0, zk_nth_s, zk_fld_o, zk_put_o, zk_rv_eq, zk_ri_eq, zk_is_o, List.mem_cons, List.not_mem_nil, or_false, false_or, or_true, true_or, and_true, true_and, not_false_iff, not_true_eq_false, true_implies, false_implies, imp_self, implies_true, forall_const, zk_lit, zk_uj_ap, zk_un_ap, zk_un_un, zk_uj_uj, Nat.reduceEqDiff, eq_self, zk_bq, Bool.true_or, Bool.false_or, Nat.le_refl, Nat.zero_add, Nat.add_zero, Nat.reduceAdd, Nat.reduceLeDiff, Nat.le_zero_eq, and_self, and_false, false_and, ite_true, ite_false, Nat.zero_le, List.length_cons, List.length_nil, Option.some.injEq, forall_eq', reduceCtorEq, spe_X10_howMuch])
  refine ⟨J, N, hli.2, ?_⟩
  refine ⟨fun hc => ?_, fun hc => ?_⟩
  · intro J2 N2 z2 hke hcf hz
    simp only [r_L_howMuch, zk_kl_none, zk_kl_int, zk_kl_ref, zk_kl_null, zk_kl_long, zk_kl_rf, zk_isr_ref, zk_isr_null, zk_isr_rf9, zk_c1_int, zk_c1_ref, zk_c1_null, zk_c1_rf, zk_psh_some, zk_psh_none, zk_nok_int, zk_nok_bool0, zk_nok_bool1, zk_nok_b, zk_fok_0, zk_fok_1, zk_fok_2, zk_fok_n, zk_fok_rf, zb_f, zb_p, zb_i, zb_a, zb_s, zk_nth_0, zk_nth_s, zk_fld_o, zk_put_o, zk_rv_eq, zk_ri_eq, zk_is_o, List.mem_cons, List.not_mem_nil, or_false, false_or, or_true, true_or, and_true, true_and, not_false_iff, not_true_eq_false, true_implies, false_implies, imp_self, implies_true, forall_const, zk_lit, zk_uj_ap, zk_un_ap, zk_un_un, zk_uj_uj, Nat.reduceEqDiff, eq_self, zk_bq, Bool.true_or, Bool.false_or, Nat.le_refl, Nat.zero_add, Nat.add_zero, Nat.reduceAdd, Nat.reduceLeDiff, Nat.le_zero_eq, and_self, and_false, false_and, ite_true, ite_false, Nat.zero_le, List.length_cons, List.length_nil, Option.some.injEq, forall_eq', reduceCtorEq, hc_q, hc_s, hc_v, hc_i]
    exact h 1 _ _ (Or.inl ⟨hc, ⟨rfl, LC.ke hli hke hcf hz⟩⟩)
  · intro J2 N2 hke hcf
    simp only [r_L_howMuch, zk_kl_none, zk_kl_int, zk_kl_ref, zk_kl_null, zk_kl_long, zk_kl_rf, zk_isr_ref, zk_isr_null, zk_isr_rf9, zk_c1_int, zk_c1_ref, zk_c1_null, zk_c1_rf, zk_psh_some, zk_psh_none, zk_nok_int, zk_nok_bool0, zk_nok_bool1, zk_nok_b, zk_fok_0, zk_fok_1, zk_fok_2, zk_fok_n, zk_fok_rf, zb_f, zb_p, zb_i, zb_a, zb_s, zk_nth_0, zk_nth_s, zk_fld_o, zk_put_o, zk_rv_eq, zk_ri_eq, zk_is_o, List.mem_cons, List.not_mem_nil, or_false, false_or, or_true, true_or, and_true, true_and, not_false_iff, not_true_eq_false, true_implies, false_implies, imp_self, implies_true, forall_const, zk_lit, zk_uj_ap, zk_un_ap, zk_un_un, zk_uj_uj, Nat.reduceEqDiff, eq_self, zk_bq, Bool.true_or, Bool.false_or, Nat.le_refl, Nat.zero_add, Nat.add_zero, Nat.reduceAdd, Nat.reduceLeDiff, Nat.le_zero_eq, and_self, and_false, false_and, ite_true, ite_false, Nat.zero_le, List.length_cons, List.length_nil, Option.some.injEq, forall_eq', reduceCtorEq, hc_q, hc_s, hc_v, hc_i]
    exact h 0 _ _ (Or.inr ⟨hc, ⟨⟨rfl, up_L U _⟩, LC.ke hli hke hcf (Nat.le_refl _)⟩⟩)
def hh_L_howMuch : List (Nat × Nat × Nat × Nat) := [(0, 9, 12, 21)]
theorem HO_L_howMuch : zk_HO RL hh_L_howMuch M_L_howMuch := by
  intro pc X hp h
  have h2 : (match Nat.beq pc 4 with | true => (if X = "java/lang/IndexOutOfBoundsException" then some 12 else none) | false => none : Option Nat) = some hp := h
  clear h
  split at h2
  · rename_i e
    have e := Nat.eq_of_beq_eq_true e
    subst e
    by_cases e0 : X = "java/lang/IndexOutOfBoundsException"
    · subst e0
      rw [if_pos rfl] at h2
      cases h2
      exact ⟨[], ⟨0, 9, 12, 21⟩, [], rfl, fun _ h => absurd h List.not_mem_nil, by decide, by decide, rfl, "java/lang/IndexOutOfBoundsException", zk_wi 545 (by decide +kernel) rfl, zk_tb 556 (by decide +kernel)⟩
    rw [if_neg e0] at h2
    cases h2
  · cases h2
theorem ct_L_howMuch {l : Launch} (hl : l.stackTraces = false) (E : zk_E) : zk_CH l E (zk_VT E) yL_howMuch cL_howMuch 4 (some (.int)) hh_L_howMuch rm_L_howMuch (sp_L_howMuch E) := by
  refine zk_methH (M := M_L_howMuch) (C := C_L_howMuch E) (by decide +kernel) rfl HO_L_howMuch (zk_VT_ok E) MO_L_howMuch TO_L_howMuch (fun _ => rfl) ?_ (vc_L_howMuch E)
  exact fun p e s m args below meth c X pc n mc ms sp2 h => by
    have h2 := zk_lka_mem h
    simp only [List.mem_cons, List.not_mem_nil, or_false, Prod.mk.injEq] at h2
    rcases h2 with ⟨rfl, rfl, rfl, rfl, rfl⟩
    exact zk_coV (idx := 95) X (ct_X10_howMuch hl E) (List.forall_mem_cons.mpr ⟨zk_wi 923 (by decide +kernel) rfl, List.forall_mem_cons.mpr ⟨zk_wi 924 (by decide +kernel) rfl, List.forall_mem_cons.mpr ⟨zk_wi 925 (by decide +kernel) rfl, List.forall_mem_cons.mpr ⟨zk_wi 1 (by decide +kernel) rfl, List.forall_mem_cons.mpr ⟨zk_wi 926 (by decide +kernel) rfl, fun _ h => absurd h List.not_mem_nil⟩⟩⟩⟩⟩) (fun ci h => by
      have h := Nat.eq_of_beq_eq_true h
      subst h
      exact ⟨_, _, rfl⟩) (by decide +kernel) ⟨by decide, by decide, by decide +kernel⟩ ⟨by decide, by decide⟩
def R_broken (E : zk_E) (σ : zk_S) (sz : Nat) (r : Int32) (k : Int32) (σ2 : zk_S) (sz2 : Nat) : Prop := CD (m_isIn r 0 9) (WN E σ sz σ2 sz2 k 1) (WO E σ sz σ2 sz2 k (nI (a_brk σ.1 σ.2.1 r)).toInt64 σ.1 σ.2.1)
def sp_L_broken (E : zk_E) : zk_Sp zk_S := fun av σ sz P PX => match av with
  | [.ref a, .int r, .ref o] => a = zk_ad E 0 ∧ o = zk_ad E 54 ∧ LI E sz σ ∧ ∀ k σ2 sz2, R_broken E σ sz r k σ2 sz2 → P (some (.int k)) σ2 sz2
  | _ => False
theorem spe_L_broken (E : zk_E) (a : Nat) (r : Int32) (o : Nat) (σ : zk_S) (sz : Nat) (P : zk_P zk_S) (PX : zk_X zk_S) : sp_L_broken E [.ref a, .int r, .ref o] σ sz P PX = (a = zk_ad E 0 ∧ o = zk_ad E 54 ∧ LI E sz σ ∧ ∀ k σ2 sz2, R_broken E σ sz r k σ2 sz2 → P (some (.int k)) σ2 sz2) := propext Iff.rfl
def C_L_broken (E : zk_E) : zk_Cl zk_S := zk_lka [(4, 2, 1, 6, zk_rv (zk_VT E) (fun ci => Nat.beq ci 9) (sp_X10_broken E))]
theorem r_L_broken (E : zk_E) (P : zk_P zk_S) (PX : zk_X zk_S) (K : Nat → zk_L → List Value → zk_W zk_S → Prop) : (∀ (n : Nat) (l0 l1 l3 : Option Value) (y2 : Value) (r : List Value) (σ : zk_S) (sz k c : Nat), zk_run E (zk_VT E) M_L_broken (C_L_broken E) P PX K (n + 1) 0 [l0, l1, some y2, l3] r (σ, sz, k, c) = (zk_isr y2 ∧ zk_run E (zk_VT E) M_L_broken (C_L_broken E) P PX K n 1 [l0, l1, some y2, l3] (y2 :: r) (σ, sz, k, c))) ∧
  (∀ (n : Nat) (l0 l1 l2 l3 : Option Value)  (r : List Value) (σ : zk_S) (sz k c : Nat), zk_run E (zk_VT E) M_L_broken (C_L_broken E) P PX K (n + 1) 1 [l0, l1, l2, l3] r (σ, sz, k, c) = zk_run E (zk_VT E) M_L_broken (C_L_broken E) P PX K n 2 [l0, l1, l2, l3] (.int (0) :: r) (σ, sz, k, c)) ∧
  (∀ (n : Nat) (l1 l2 l3 : Option Value) (y0 : Value) (r : List Value) (σ : zk_S) (sz k c : Nat), zk_run E (zk_VT E) M_L_broken (C_L_broken E) P PX K (n + 1) 2 [some y0, l1, l2, l3] r (σ, sz, k, c) = (zk_isr y0 ∧ zk_run E (zk_VT E) M_L_broken (C_L_broken E) P PX K n 3 [some y0, l1, l2, l3] (y0 :: r) (σ, sz, k, c))) ∧
  (∀ (n : Nat) (l0 l2 l3 : Option Value) (y1 : Int32) (r : List Value) (σ : zk_S) (sz k c : Nat), zk_run E (zk_VT E) M_L_broken (C_L_broken E) P PX K (n + 1) 3 [l0, some (.int y1), l2, l3] r (σ, sz, k, c) = zk_run E (zk_VT E) M_L_broken (C_L_broken E) P PX K n 4 [l0, some (.int y1), l2, l3] (.int y1 :: r) (σ, sz, k, c)) ∧
  (∀ (n : Nat) (l0 l1 l2 l3 : Option Value) (v0 : Value) (v1 : Value) (v2 : Value) (v3 : Value)  (σ : zk_S) (sz k c : Nat), zk_run E (zk_VT E) M_L_broken (C_L_broken E) P PX K (n + 1) 4 [l0, l1, l2, l3] [v0, v1, v2, v3] (σ, sz, k, c) = (k + 1 ≤ 1 ∧ c + 6 ≤ 6 ∧ (zk_rv (zk_VT E) (fun ci => Nat.beq ci 9) (sp_X10_broken E)) [v1, v0] σ sz (fun v s2 z2 => zk_run E (zk_VT E) M_L_broken (C_L_broken E) P PX K n 7 [l0, l1, l2, l3] (zk_psh v [v2, v3]) (s2, z2, k + 1, c + 6)) (fun X s2 z2 => (match (match Nat.beq 4 4 with
  | true => if X = "java/lang/IndexOutOfBoundsException" then some 12 else none
  | false => none : Option Nat) with
    | some hp => ∀ q : Nat, zk_run E (zk_VT E) M_L_broken (C_L_broken E) P PX K n hp [l0, l1, l2, l3] [.ref q] (s2, z2, k + 1, c + 6)
    | none => PX X s2 z2)))) ∧
  (∀ (n : Nat) (l0 l1 l2 l3 : Option Value) (x : Int32) (r : List Value) (σ : zk_S) (sz k c : Nat), zk_run E (zk_VT E) M_L_broken (C_L_broken E) P PX K (n + 1) 7 [l0, l1, l2, l3] (.int x :: r) (σ, sz, k, c) = zk_run E (zk_VT E) M_L_broken (C_L_broken E) P PX K n 8 [l0, l1, l2, l3] (.long (x.toInt64) :: r) (σ, sz, k, c)) ∧
  (∀ (n : Nat) (l0 l1 l2 l3 : Option Value) (a : Nat) (i : Int32) (x : Int64) (r : List Value) (σ : zk_S) (sz k c : Nat), zk_run E (zk_VT E) M_L_broken (C_L_broken E) P PX K (n + 1) 8 [l0, l1, l2, l3] (.long x :: .int i :: .ref a :: r) (σ, sz, k, c) = zk_lst (zk_view E σ a) (zk_ar E 2) i x (fun e => zk_wrok E σ a e ∧ zk_run E (zk_VT E) M_L_broken (C_L_broken E) P PX K n 9 [l0, l1, l2, l3] r (zk_wr E σ a e, sz, k, c))) ∧
  (∀ (n : Nat) (l0 l1 l2 l3 : Option Value)  (r : List Value) (σ : zk_S) (sz k c : Nat), zk_run E (zk_VT E) M_L_broken (C_L_broken E) P PX K (n + 1) 9 [l0, l1, l2, l3] r (σ, sz, k, c) = zk_run E (zk_VT E) M_L_broken (C_L_broken E) P PX K n 15 [l0, l1, l2, l3] r (σ, sz, k, c)) ∧
  (∀ (n : Nat) (l0 l1 l2 l3 : Option Value) (x : Value) (r : List Value) (σ : zk_S) (sz k c : Nat), zk_run E (zk_VT E) M_L_broken (C_L_broken E) P PX K (n + 1) 12 [l0, l1, l2, l3] (x :: r) (σ, sz, k, c) = (zk_isr x ∧ zk_run E (zk_VT E) M_L_broken (C_L_broken E) P PX K n 13 [l0, l1, zk_kl l2, some (x)] r (σ, sz, k, c))) ∧
  (∀ (n : Nat) (l0 l1 l2 l3 : Option Value)  (r : List Value) (σ : zk_S) (sz k c : Nat), zk_run E (zk_VT E) M_L_broken (C_L_broken E) P PX K (n + 1) 13 [l0, l1, l2, l3] r (σ, sz, k, c) = zk_run E (zk_VT E) M_L_broken (C_L_broken E) P PX K n 14 [l0, l1, l2, l3] (.int (1) :: r) (σ, sz, k, c)) ∧
  (∀ (n : Nat) (l0 l1 l2 l3 : Option Value) (x : Int32)  (σ : zk_S) (sz k c : Nat), zk_run E (zk_VT E) M_L_broken (C_L_broken E) P PX K (n + 1) 14 [l0, l1, l2, l3] [.int x] (σ, sz, k, c) = (zk_nok (some (.int)) x ∧ P (some (.int x)) σ sz ∧ k ≤ 1 ∧ c ≤ 6)) ∧
  (∀ (n : Nat) (l0 l1 l2 l3 : Option Value)  (r : List Value) (σ : zk_S) (sz k c : Nat), zk_run E (zk_VT E) M_L_broken (C_L_broken E) P PX K (n + 1) 15 [l0, l1, l2, l3] r (σ, sz, k, c) = zk_run E (zk_VT E) M_L_broken (C_L_broken E) P PX K n 16 [l0, l1, l2, l3] (.int (0) :: r) (σ, sz, k, c)) ∧
  (∀ (n : Nat) (l0 l1 l2 l3 : Option Value) (x : Int32)  (σ : zk_S) (sz k c : Nat), zk_run E (zk_VT E) M_L_broken (C_L_broken E) P PX K (n + 1) 16 [l0, l1, l2, l3] [.int x] (σ, sz, k, c) = (zk_nok (some (.int)) x ∧ P (some (.int x)) σ sz ∧ k ≤ 1 ∧ c ≤ 6)) ∧
  (∀ (n : Nat) (l0 l1 l2 l3 : Option Value) (r : List Value) (w : zk_W zk_S), zk_go E (zk_VT E) M_L_broken (C_L_broken E) P PX K n 0 [l0, l1, l2, l3] r w = zk_run E (zk_VT E) M_L_broken (C_L_broken E) P PX K (n + 1) 0 [l0, l1, l2, l3] r w) := ⟨by intros; rfl, by intros; rfl, by intros; rfl, by intros; rfl, by intros; rfl, by intros; rfl, by intros; rfl, by intros; rfl, by intros; rfl, by intros; rfl, by intros; rfl, by intros; rfl, by intros; rfl, by intros; rfl⟩
set_option maxHeartbeats 4000000 in
theorem vc_L_broken (E : zk_E) : zk_VCH E (zk_VT E) M_L_broken (C_L_broken E) 4 (sp_L_broken E) := by
  intro av σ sz P h
  obtain ⟨J, N, Q, O, U⟩ := σ
  unfold sp_L_broken at h
  split at h
  case h_2 => exact h.elim
  rename_i a r o
  refine ⟨Nat.le_of_ble_eq_true rfl, fun G hG => ?_⟩
  change G 0 [some (.ref a), some (.int r), some (.ref o), none] [] ((J, N, Q, O, U), sz, 0, 0)
  try dsimp only at h
  obtain ⟨rfl, rfl, hli, h⟩ := h
  have hms := hli.2.1.1
  unfold R_broken at h
  dsimp only at h
  (refine hG 900 _ _ _ _ ?_; simp only [r_L_broken, zk_kl_none, zk_kl_int, zk_kl_ref, zk_kl_null, zk_kl_long, zk_kl_rf, zk_isr_ref, zk_isr_null, zk_isr_rf9, zk_c1_int, zk_c1_ref, zk_c1_null, zk_c1_rf, zk_psh_some, zk_psh_none, zk_nok_int, zk_nok_bool0, zk_nok_bool1, zk_nok_b, zk_fok_0, zk_fok_1, zk_fok_2, zk_fok_n, zk_fok_rf, zb_f, zb_p, zb_i, zb_a, zb_s, zk_nth_0, zk_nth_s, zk_fld_o, zk_put_o, zk_rv_eq, zk_ri_eq, zk_is_o, List.mem_cons, List.not_mem_nil, or_false, false_or, or_true, true_or, and_true, true_and, not_false_iff, not_true_eq_false, true_implies, false_implies, imp_self, implies_true, forall_const, zk_lit, zk_uj_ap, zk_un_ap, zk_un_un, zk_uj_uj, Nat.reduceEqDiff, eq_self, zk_bq, Bool.true_or, Bool.false_or, Nat.le_refl, Nat.zero_add, Nat.add_zero, Nat.reduceAdd, Nat.reduceLeDiff, Nat.le_zero_eq, and_self, and_false, false_and, ite_true, ite_false, Nat.zero_le, List.length_cons, List.length_nil, Option.some.injEq, forall_eq', reduceCtorEq, spe_X10_broken])
  refine ⟨J, N, hli.2, ?_⟩
  refine ⟨fun hc => ?_, fun hc => ?_⟩
  · intro J2 N2 z2 hke hcf hz
    simp only [r_L_broken, zk_kl_none, zk_kl_int, zk_kl_ref, zk_kl_null, zk_kl_long, zk_kl_rf, zk_isr_ref, zk_isr_null, zk_isr_rf9, zk_c1_int, zk_c1_ref, zk_c1_null, zk_c1_rf, zk_psh_some, zk_psh_none, zk_nok_int, zk_nok_bool0, zk_nok_bool1, zk_nok_b, zk_fok_0, zk_fok_1, zk_fok_2, zk_fok_n, zk_fok_rf, zb_f, zb_p, zb_i, zb_a, zb_s, zk_nth_0, zk_nth_s, zk_fld_o, zk_put_o, zk_rv_eq, zk_ri_eq, zk_is_o, List.mem_cons, List.not_mem_nil, or_false, false_or, or_true, true_or, and_true, true_and, not_false_iff, not_true_eq_false, true_implies, false_implies, imp_self, implies_true, forall_const, zk_lit, zk_uj_ap, zk_un_ap, zk_un_un, zk_uj_uj, Nat.reduceEqDiff, eq_self, zk_bq, Bool.true_or, Bool.false_or, Nat.le_refl, Nat.zero_add, Nat.add_zero, Nat.reduceAdd, Nat.reduceLeDiff, Nat.le_zero_eq, and_self, and_false, false_and, ite_true, ite_false, Nat.zero_le, List.length_cons, List.length_nil, Option.some.injEq, forall_eq', reduceCtorEq, hc_q, hc_s, hc_v, hc_i]
    exact h 1 _ _ (Or.inl ⟨hc, ⟨rfl, LC.ke hli hke hcf hz⟩⟩)
  · intro J2 N2 hke hcf
    simp only [r_L_broken, zk_kl_none, zk_kl_int, zk_kl_ref, zk_kl_null, zk_kl_long, zk_kl_rf, zk_isr_ref, zk_isr_null, zk_isr_rf9, zk_c1_int, zk_c1_ref, zk_c1_null, zk_c1_rf, zk_psh_some, zk_psh_none, zk_nok_int, zk_nok_bool0, zk_nok_bool1, zk_nok_b, zk_fok_0, zk_fok_1, zk_fok_2, zk_fok_n, zk_fok_rf, zb_f, zb_p, zb_i, zb_a, zb_s, zk_nth_0, zk_nth_s, zk_fld_o, zk_put_o, zk_rv_eq, zk_ri_eq, zk_is_o, List.mem_cons, List.not_mem_nil, or_false, false_or, or_true, true_or, and_true, true_and, not_false_iff, not_true_eq_false, true_implies, false_implies, imp_self, implies_true, forall_const, zk_lit, zk_uj_ap, zk_un_ap, zk_un_un, zk_uj_uj, Nat.reduceEqDiff, eq_self, zk_bq, Bool.true_or, Bool.false_or, Nat.le_refl, Nat.zero_add, Nat.add_zero, Nat.reduceAdd, Nat.reduceLeDiff, Nat.le_zero_eq, and_self, and_false, false_and, ite_true, ite_false, Nat.zero_le, List.length_cons, List.length_nil, Option.some.injEq, forall_eq', reduceCtorEq, hc_q, hc_s, hc_v, hc_i]
    exact h 0 _ _ (Or.inr ⟨hc, ⟨⟨rfl, up_L U _⟩, LC.ke hli hke hcf (Nat.le_refl _)⟩⟩)
def hh_L_broken : List (Nat × Nat × Nat × Nat) := [(0, 9, 12, 21)]
theorem HO_L_broken : zk_HO RL hh_L_broken M_L_broken := by
  intro pc X hp h
  have h2 : (match Nat.beq pc 4 with | true => (if X = "java/lang/IndexOutOfBoundsException" then some 12 else none) | false => none : Option Nat) = some hp := h
  clear h
  split at h2
  · rename_i e
    have e := Nat.eq_of_beq_eq_true e
    subst e
    by_cases e0 : X = "java/lang/IndexOutOfBoundsException"
    · subst e0
      rw [if_pos rfl] at h2
      cases h2
      exact ⟨[], ⟨0, 9, 12, 21⟩, [], rfl, fun _ h => absurd h List.not_mem_nil, by decide, by decide, rfl, "java/lang/IndexOutOfBoundsException", zk_wi 545 (by decide +kernel) rfl, zk_tb 556 (by decide +kernel)⟩
    rw [if_neg e0] at h2
    cases h2
  · cases h2
theorem ct_L_broken {l : Launch} (hl : l.stackTraces = false) (E : zk_E) : zk_CH l E (zk_VT E) yL_broken cL_broken 4 (some (.int)) hh_L_broken rm_L_broken (sp_L_broken E) := by
  refine zk_methH (M := M_L_broken) (C := C_L_broken E) (by decide +kernel) rfl HO_L_broken (zk_VT_ok E) MO_L_broken TO_L_broken (fun _ => rfl) ?_ (vc_L_broken E)
  exact fun p e s m args below meth c X pc n mc ms sp2 h => by
    have h2 := zk_lka_mem h
    simp only [List.mem_cons, List.not_mem_nil, or_false, Prod.mk.injEq] at h2
    rcases h2 with ⟨rfl, rfl, rfl, rfl, rfl⟩
    exact zk_coV (idx := 98) X (ct_X10_broken hl E) (List.forall_mem_cons.mpr ⟨zk_wi 930 (by decide +kernel) rfl, List.forall_mem_cons.mpr ⟨zk_wi 931 (by decide +kernel) rfl, List.forall_mem_cons.mpr ⟨zk_wi 932 (by decide +kernel) rfl, List.forall_mem_cons.mpr ⟨zk_wi 1 (by decide +kernel) rfl, List.forall_mem_cons.mpr ⟨zk_wi 933 (by decide +kernel) rfl, fun _ h => absurd h List.not_mem_nil⟩⟩⟩⟩⟩) (fun ci h => by
      have h := Nat.eq_of_beq_eq_true h
      subst h
      exact ⟨_, _, rfl⟩) (by decide +kernel) ⟨by decide, by decide, by decide +kernel⟩ ⟨by decide, by decide⟩
def R_faultsWith (E : zk_E) (σ : zk_S) (sz : Nat) (r : Int32) (k : Int32) (σ2 : zk_S) (sz2 : Nat) : Prop := DRD σ.1 σ.2.1 r (fun j => WO E σ sz σ2 sz2 k (nI (a_faults σ.1 (m_tgl σ.2.1 j))).toInt64 σ.1 σ.2.1) (WN E σ sz σ2 sz2 k 1)
def sp_L_faultsWith (E : zk_E) : zk_Sp zk_S := fun av σ sz P PX => match av with
  | [.ref a, .int r, .ref o] => a = zk_ad E 0 ∧ o = zk_ad E 54 ∧ LI E sz σ ∧ ∀ k σ2 sz2, R_faultsWith E σ sz r k σ2 sz2 → P (some (.int k)) σ2 sz2
  | _ => False
theorem spe_L_faultsWith (E : zk_E) (a : Nat) (r : Int32) (o : Nat) (σ : zk_S) (sz : Nat) (P : zk_P zk_S) (PX : zk_X zk_S) : sp_L_faultsWith E [.ref a, .int r, .ref o] σ sz P PX = (a = zk_ad E 0 ∧ o = zk_ad E 54 ∧ LI E sz σ ∧ ∀ k σ2 sz2, R_faultsWith E σ sz r k σ2 sz2 → P (some (.int k)) σ2 sz2) := propext Iff.rfl
def C_L_faultsWith (E : zk_E) : zk_Cl zk_S := zk_lka [(4, 2, 1, 6, zk_rv (zk_VT E) (fun ci => Nat.beq ci 9) (sp_X10_faultsWith E))]
theorem r_L_faultsWith (E : zk_E) (P : zk_P zk_S) (PX : zk_X zk_S) (K : Nat → zk_L → List Value → zk_W zk_S → Prop) : (∀ (n : Nat) (l0 l1 l3 : Option Value) (y2 : Value) (r : List Value) (σ : zk_S) (sz k c : Nat), zk_run E (zk_VT E) M_L_faultsWith (C_L_faultsWith E) P PX K (n + 1) 0 [l0, l1, some y2, l3] r (σ, sz, k, c) = (zk_isr y2 ∧ zk_run E (zk_VT E) M_L_faultsWith (C_L_faultsWith E) P PX K n 1 [l0, l1, some y2, l3] (y2 :: r) (σ, sz, k, c))) ∧
  (∀ (n : Nat) (l0 l1 l2 l3 : Option Value)  (r : List Value) (σ : zk_S) (sz k c : Nat), zk_run E (zk_VT E) M_L_faultsWith (C_L_faultsWith E) P PX K (n + 1) 1 [l0, l1, l2, l3] r (σ, sz, k, c) = zk_run E (zk_VT E) M_L_faultsWith (C_L_faultsWith E) P PX K n 2 [l0, l1, l2, l3] (.int (0) :: r) (σ, sz, k, c)) ∧
  (∀ (n : Nat) (l1 l2 l3 : Option Value) (y0 : Value) (r : List Value) (σ : zk_S) (sz k c : Nat), zk_run E (zk_VT E) M_L_faultsWith (C_L_faultsWith E) P PX K (n + 1) 2 [some y0, l1, l2, l3] r (σ, sz, k, c) = (zk_isr y0 ∧ zk_run E (zk_VT E) M_L_faultsWith (C_L_faultsWith E) P PX K n 3 [some y0, l1, l2, l3] (y0 :: r) (σ, sz, k, c))) ∧
  (∀ (n : Nat) (l0 l2 l3 : Option Value) (y1 : Int32) (r : List Value) (σ : zk_S) (sz k c : Nat), zk_run E (zk_VT E) M_L_faultsWith (C_L_faultsWith E) P PX K (n + 1) 3 [l0, some (.int y1), l2, l3] r (σ, sz, k, c) = zk_run E (zk_VT E) M_L_faultsWith (C_L_faultsWith E) P PX K n 4 [l0, some (.int y1), l2, l3] (.int y1 :: r) (σ, sz, k, c)) ∧
  (∀ (n : Nat) (l0 l1 l2 l3 : Option Value) (v0 : Value) (v1 : Value) (v2 : Value) (v3 : Value)  (σ : zk_S) (sz k c : Nat), zk_run E (zk_VT E) M_L_faultsWith (C_L_faultsWith E) P PX K (n + 1) 4 [l0, l1, l2, l3] [v0, v1, v2, v3] (σ, sz, k, c) = (k + 1 ≤ 1 ∧ c + 6 ≤ 6 ∧ (zk_rv (zk_VT E) (fun ci => Nat.beq ci 9) (sp_X10_faultsWith E)) [v1, v0] σ sz (fun v s2 z2 => zk_run E (zk_VT E) M_L_faultsWith (C_L_faultsWith E) P PX K n 7 [l0, l1, l2, l3] (zk_psh v [v2, v3]) (s2, z2, k + 1, c + 6)) (fun X s2 z2 => (match (match Nat.beq 4 4 with
  | true => if X = "java/lang/IndexOutOfBoundsException" then some 12 else none
  | false => none : Option Nat) with
    | some hp => ∀ q : Nat, zk_run E (zk_VT E) M_L_faultsWith (C_L_faultsWith E) P PX K n hp [l0, l1, l2, l3] [.ref q] (s2, z2, k + 1, c + 6)
    | none => PX X s2 z2)))) ∧
  (∀ (n : Nat) (l0 l1 l2 l3 : Option Value) (x : Int32) (r : List Value) (σ : zk_S) (sz k c : Nat), zk_run E (zk_VT E) M_L_faultsWith (C_L_faultsWith E) P PX K (n + 1) 7 [l0, l1, l2, l3] (.int x :: r) (σ, sz, k, c) = zk_run E (zk_VT E) M_L_faultsWith (C_L_faultsWith E) P PX K n 8 [l0, l1, l2, l3] (.long (x.toInt64) :: r) (σ, sz, k, c)) ∧
  (∀ (n : Nat) (l0 l1 l2 l3 : Option Value) (a : Nat) (i : Int32) (x : Int64) (r : List Value) (σ : zk_S) (sz k c : Nat), zk_run E (zk_VT E) M_L_faultsWith (C_L_faultsWith E) P PX K (n + 1) 8 [l0, l1, l2, l3] (.long x :: .int i :: .ref a :: r) (σ, sz, k, c) = zk_lst (zk_view E σ a) (zk_ar E 2) i x (fun e => zk_wrok E σ a e ∧ zk_run E (zk_VT E) M_L_faultsWith (C_L_faultsWith E) P PX K n 9 [l0, l1, l2, l3] r (zk_wr E σ a e, sz, k, c))) ∧
  (∀ (n : Nat) (l0 l1 l2 l3 : Option Value)  (r : List Value) (σ : zk_S) (sz k c : Nat), zk_run E (zk_VT E) M_L_faultsWith (C_L_faultsWith E) P PX K (n + 1) 9 [l0, l1, l2, l3] r (σ, sz, k, c) = zk_run E (zk_VT E) M_L_faultsWith (C_L_faultsWith E) P PX K n 15 [l0, l1, l2, l3] r (σ, sz, k, c)) ∧
  (∀ (n : Nat) (l0 l1 l2 l3 : Option Value) (x : Value) (r : List Value) (σ : zk_S) (sz k c : Nat), zk_run E (zk_VT E) M_L_faultsWith (C_L_faultsWith E) P PX K (n + 1) 12 [l0, l1, l2, l3] (x :: r) (σ, sz, k, c) = (zk_isr x ∧ zk_run E (zk_VT E) M_L_faultsWith (C_L_faultsWith E) P PX K n 13 [l0, l1, zk_kl l2, some (x)] r (σ, sz, k, c))) ∧
  (∀ (n : Nat) (l0 l1 l2 l3 : Option Value)  (r : List Value) (σ : zk_S) (sz k c : Nat), zk_run E (zk_VT E) M_L_faultsWith (C_L_faultsWith E) P PX K (n + 1) 13 [l0, l1, l2, l3] r (σ, sz, k, c) = zk_run E (zk_VT E) M_L_faultsWith (C_L_faultsWith E) P PX K n 14 [l0, l1, l2, l3] (.int (1) :: r) (σ, sz, k, c)) ∧
  (∀ (n : Nat) (l0 l1 l2 l3 : Option Value) (x : Int32)  (σ : zk_S) (sz k c : Nat), zk_run E (zk_VT E) M_L_faultsWith (C_L_faultsWith E) P PX K (n + 1) 14 [l0, l1, l2, l3] [.int x] (σ, sz, k, c) = (zk_nok (some (.int)) x ∧ P (some (.int x)) σ sz ∧ k ≤ 1 ∧ c ≤ 6)) ∧
  (∀ (n : Nat) (l0 l1 l2 l3 : Option Value)  (r : List Value) (σ : zk_S) (sz k c : Nat), zk_run E (zk_VT E) M_L_faultsWith (C_L_faultsWith E) P PX K (n + 1) 15 [l0, l1, l2, l3] r (σ, sz, k, c) = zk_run E (zk_VT E) M_L_faultsWith (C_L_faultsWith E) P PX K n 16 [l0, l1, l2, l3] (.int (0) :: r) (σ, sz, k, c)) ∧
  (∀ (n : Nat) (l0 l1 l2 l3 : Option Value) (x : Int32)  (σ : zk_S) (sz k c : Nat), zk_run E (zk_VT E) M_L_faultsWith (C_L_faultsWith E) P PX K (n + 1) 16 [l0, l1, l2, l3] [.int x] (σ, sz, k, c) = (zk_nok (some (.int)) x ∧ P (some (.int x)) σ sz ∧ k ≤ 1 ∧ c ≤ 6)) ∧
  (∀ (n : Nat) (l0 l1 l2 l3 : Option Value) (r : List Value) (w : zk_W zk_S), zk_go E (zk_VT E) M_L_faultsWith (C_L_faultsWith E) P PX K n 0 [l0, l1, l2, l3] r w = zk_run E (zk_VT E) M_L_faultsWith (C_L_faultsWith E) P PX K (n + 1) 0 [l0, l1, l2, l3] r w) := ⟨by intros; rfl, by intros; rfl, by intros; rfl, by intros; rfl, by intros; rfl, by intros; rfl, by intros; rfl, by intros; rfl, by intros; rfl, by intros; rfl, by intros; rfl, by intros; rfl, by intros; rfl, by intros; rfl⟩
set_option maxHeartbeats 4000000 in
theorem vc_L_faultsWith (E : zk_E) : zk_VCH E (zk_VT E) M_L_faultsWith (C_L_faultsWith E) 4 (sp_L_faultsWith E) := by
  intro av σ sz P h
  obtain ⟨J, N, Q, O, U⟩ := σ
  unfold sp_L_faultsWith at h
  split at h
  case h_2 => exact h.elim
  rename_i a r o
  refine ⟨Nat.le_of_ble_eq_true rfl, fun G hG => ?_⟩
  change G 0 [some (.ref a), some (.int r), some (.ref o), none] [] ((J, N, Q, O, U), sz, 0, 0)
  try dsimp only at h
  obtain ⟨rfl, rfl, hli, h⟩ := h
  have hms := hli.2.1.1
  unfold R_faultsWith at h
  dsimp only at h
  (refine hG 900 _ _ _ _ ?_; simp only [r_L_faultsWith, zk_kl_none, zk_kl_int, zk_kl_ref, zk_kl_null, zk_kl_long, zk_kl_rf, zk_isr_ref, zk_isr_null, zk_isr_rf9, zk_c1_int, zk_c1_ref, zk_c1_null, zk_c1_rf, zk_psh_some, zk_psh_none, zk_nok_int, zk_nok_bool0, zk_nok_bool1, zk_nok_b, zk_fok_0, zk_fok_1, zk_fok_2, zk_fok_n, zk_fok_rf, zb_f, zb_p, zb_i, zb_a, zb_s, zk_nth_0, zk_nth_s, zk_fld_o, zk_put_o, zk_rv_eq, zk_ri_eq, zk_is_o, List.mem_cons, List.not_mem_nil, or_false, false_or, or_true, true_or, and_true, true_and, not_false_iff, not_true_eq_false, true_implies, false_implies, imp_self, implies_true, forall_const, zk_lit, zk_uj_ap, zk_un_ap, zk_un_un, zk_uj_uj, Nat.reduceEqDiff, eq_self, zk_bq, Bool.true_or, Bool.false_or, Nat.le_refl, Nat.zero_add, Nat.add_zero, Nat.reduceAdd, Nat.reduceLeDiff, Nat.le_zero_eq, and_self, and_false, false_and, ite_true, ite_false, Nat.zero_le, List.length_cons, List.length_nil, Option.some.injEq, forall_eq', reduceCtorEq, spe_X10_faultsWith])
  refine ⟨J, N, hli.2, ?_⟩
  refine DRD.mk hms (fun j hj ej => ?_) (fun ej => ?_)
  · intro J2 N2 hke hcf
    simp only [r_L_faultsWith, zk_kl_none, zk_kl_int, zk_kl_ref, zk_kl_null, zk_kl_long, zk_kl_rf, zk_isr_ref, zk_isr_null, zk_isr_rf9, zk_c1_int, zk_c1_ref, zk_c1_null, zk_c1_rf, zk_psh_some, zk_psh_none, zk_nok_int, zk_nok_bool0, zk_nok_bool1, zk_nok_b, zk_fok_0, zk_fok_1, zk_fok_2, zk_fok_n, zk_fok_rf, zb_f, zb_p, zb_i, zb_a, zb_s, zk_nth_0, zk_nth_s, zk_fld_o, zk_put_o, zk_rv_eq, zk_ri_eq, zk_is_o, List.mem_cons, List.not_mem_nil, or_false, false_or, or_true, true_or, and_true, true_and, not_false_iff, not_true_eq_false, true_implies, false_implies, imp_self, implies_true, forall_const, zk_lit, zk_uj_ap, zk_un_ap, zk_un_un, zk_uj_uj, Nat.reduceEqDiff, eq_self, zk_bq, Bool.true_or, Bool.false_or, Nat.le_refl, Nat.zero_add, Nat.add_zero, Nat.reduceAdd, Nat.reduceLeDiff, Nat.le_zero_eq, and_self, and_false, false_and, ite_true, ite_false, Nat.zero_le, List.length_cons, List.length_nil, Option.some.injEq, forall_eq', reduceCtorEq, hc_q, hc_s, hc_v, hc_i]
    exact h 0 _ _ (Or.inl ⟨j, hj, ej, ⟨⟨rfl, up_L U _⟩, LC.ke hli hke hcf (Nat.le_refl _)⟩⟩)
  · intro J2 N2 z2 hke hcf hz
    simp only [r_L_faultsWith, zk_kl_none, zk_kl_int, zk_kl_ref, zk_kl_null, zk_kl_long, zk_kl_rf, zk_isr_ref, zk_isr_null, zk_isr_rf9, zk_c1_int, zk_c1_ref, zk_c1_null, zk_c1_rf, zk_psh_some, zk_psh_none, zk_nok_int, zk_nok_bool0, zk_nok_bool1, zk_nok_b, zk_fok_0, zk_fok_1, zk_fok_2, zk_fok_n, zk_fok_rf, zb_f, zb_p, zb_i, zb_a, zb_s, zk_nth_0, zk_nth_s, zk_fld_o, zk_put_o, zk_rv_eq, zk_ri_eq, zk_is_o, List.mem_cons, List.not_mem_nil, or_false, false_or, or_true, true_or, and_true, true_and, not_false_iff, not_true_eq_false, true_implies, false_implies, imp_self, implies_true, forall_const, zk_lit, zk_uj_ap, zk_un_ap, zk_un_un, zk_uj_uj, Nat.reduceEqDiff, eq_self, zk_bq, Bool.true_or, Bool.false_or, Nat.le_refl, Nat.zero_add, Nat.add_zero, Nat.reduceAdd, Nat.reduceLeDiff, Nat.le_zero_eq, and_self, and_false, false_and, ite_true, ite_false, Nat.zero_le, List.length_cons, List.length_nil, Option.some.injEq, forall_eq', reduceCtorEq, hc_q, hc_s, hc_v, hc_i]
    exact h 1 _ _ (Or.inr ⟨ej, ⟨rfl, LC.ke hli hke hcf hz⟩⟩)
def hh_L_faultsWith : List (Nat × Nat × Nat × Nat) := [(0, 9, 12, 21)]
theorem HO_L_faultsWith : zk_HO RL hh_L_faultsWith M_L_faultsWith := by
  intro pc X hp h
  have h2 : (match Nat.beq pc 4 with | true => (if X = "java/lang/IndexOutOfBoundsException" then some 12 else none) | false => none : Option Nat) = some hp := h
  clear h
  split at h2
  · rename_i e
    have e := Nat.eq_of_beq_eq_true e
    subst e
    by_cases e0 : X = "java/lang/IndexOutOfBoundsException"
    · subst e0
      rw [if_pos rfl] at h2
      cases h2
      exact ⟨[], ⟨0, 9, 12, 21⟩, [], rfl, fun _ h => absurd h List.not_mem_nil, by decide, by decide, rfl, "java/lang/IndexOutOfBoundsException", zk_wi 545 (by decide +kernel) rfl, zk_tb 556 (by decide +kernel)⟩
    rw [if_neg e0] at h2
    cases h2
  · cases h2
theorem ct_L_faultsWith {l : Launch} (hl : l.stackTraces = false) (E : zk_E) : zk_CH l E (zk_VT E) yL_faultsWith cL_faultsWith 4 (some (.int)) hh_L_faultsWith rm_L_faultsWith (sp_L_faultsWith E) := by
  refine zk_methH (M := M_L_faultsWith) (C := C_L_faultsWith E) (by decide +kernel) rfl HO_L_faultsWith (zk_VT_ok E) MO_L_faultsWith TO_L_faultsWith (fun _ => rfl) ?_ (vc_L_faultsWith E)
  exact fun p e s m args below meth c X pc n mc ms sp2 h => by
    have h2 := zk_lka_mem h
    simp only [List.mem_cons, List.not_mem_nil, or_false, Prod.mk.injEq] at h2
    rcases h2 with ⟨rfl, rfl, rfl, rfl, rfl⟩
    exact zk_coV (idx := 101) X (ct_X10_faultsWith hl E) (List.forall_mem_cons.mpr ⟨zk_wi 941 (by decide +kernel) rfl, List.forall_mem_cons.mpr ⟨zk_wi 942 (by decide +kernel) rfl, List.forall_mem_cons.mpr ⟨zk_wi 943 (by decide +kernel) rfl, List.forall_mem_cons.mpr ⟨zk_wi 1 (by decide +kernel) rfl, List.forall_mem_cons.mpr ⟨zk_wi 944 (by decide +kernel) rfl, fun _ h => absurd h List.not_mem_nil⟩⟩⟩⟩⟩) (fun ci h => by
      have h := Nat.eq_of_beq_eq_true h
      subst h
      exact ⟨_, _, rfl⟩) (by decide +kernel) ⟨by decide, by decide, by decide +kernel⟩ ⟨by decide, by decide⟩
def R_lostWithout (E : zk_E) (σ : zk_S) (sz : Nat) (r : Int32) (k : Int32) (σ2 : zk_S) (sz2 : Nat) : Prop := DRD σ.1 σ.2.1 r (fun j => (¬ σ.2.1 36 j = 0 ∧ WO E σ sz σ2 sz2 k ((0 : Int32)).toInt64 σ.1 σ.2.1) ∨ (σ.2.1 36 j = 0 ∧ WO E σ sz σ2 sz2 k (a_stuck σ.1 (m_tgl σ.2.1 j) - a_stuck σ.1 σ.2.1).toInt64 σ.1 σ.2.1)) (WN E σ sz σ2 sz2 k 1)
def sp_L_lostWithout (E : zk_E) : zk_Sp zk_S := fun av σ sz P PX => match av with
  | [.ref a, .int r, .ref o] => a = zk_ad E 0 ∧ o = zk_ad E 54 ∧ LI E sz σ ∧ ∀ k σ2 sz2, R_lostWithout E σ sz r k σ2 sz2 → P (some (.int k)) σ2 sz2
  | _ => False
theorem spe_L_lostWithout (E : zk_E) (a : Nat) (r : Int32) (o : Nat) (σ : zk_S) (sz : Nat) (P : zk_P zk_S) (PX : zk_X zk_S) : sp_L_lostWithout E [.ref a, .int r, .ref o] σ sz P PX = (a = zk_ad E 0 ∧ o = zk_ad E 54 ∧ LI E sz σ ∧ ∀ k σ2 sz2, R_lostWithout E σ sz r k σ2 sz2 → P (some (.int k)) σ2 sz2) := propext Iff.rfl
def C_L_lostWithout (E : zk_E) : zk_Cl zk_S := zk_lka [(4, 2, 1, 6, zk_rv (zk_VT E) (fun ci => Nat.beq ci 9) (sp_X10_lostWithout E))]
theorem r_L_lostWithout (E : zk_E) (P : zk_P zk_S) (PX : zk_X zk_S) (K : Nat → zk_L → List Value → zk_W zk_S → Prop) : (∀ (n : Nat) (l0 l1 l3 : Option Value) (y2 : Value) (r : List Value) (σ : zk_S) (sz k c : Nat), zk_run E (zk_VT E) M_L_lostWithout (C_L_lostWithout E) P PX K (n + 1) 0 [l0, l1, some y2, l3] r (σ, sz, k, c) = (zk_isr y2 ∧ zk_run E (zk_VT E) M_L_lostWithout (C_L_lostWithout E) P PX K n 1 [l0, l1, some y2, l3] (y2 :: r) (σ, sz, k, c))) ∧
  (∀ (n : Nat) (l0 l1 l2 l3 : Option Value)  (r : List Value) (σ : zk_S) (sz k c : Nat), zk_run E (zk_VT E) M_L_lostWithout (C_L_lostWithout E) P PX K (n + 1) 1 [l0, l1, l2, l3] r (σ, sz, k, c) = zk_run E (zk_VT E) M_L_lostWithout (C_L_lostWithout E) P PX K n 2 [l0, l1, l2, l3] (.int (0) :: r) (σ, sz, k, c)) ∧
  (∀ (n : Nat) (l1 l2 l3 : Option Value) (y0 : Value) (r : List Value) (σ : zk_S) (sz k c : Nat), zk_run E (zk_VT E) M_L_lostWithout (C_L_lostWithout E) P PX K (n + 1) 2 [some y0, l1, l2, l3] r (σ, sz, k, c) = (zk_isr y0 ∧ zk_run E (zk_VT E) M_L_lostWithout (C_L_lostWithout E) P PX K n 3 [some y0, l1, l2, l3] (y0 :: r) (σ, sz, k, c))) ∧
  (∀ (n : Nat) (l0 l2 l3 : Option Value) (y1 : Int32) (r : List Value) (σ : zk_S) (sz k c : Nat), zk_run E (zk_VT E) M_L_lostWithout (C_L_lostWithout E) P PX K (n + 1) 3 [l0, some (.int y1), l2, l3] r (σ, sz, k, c) = zk_run E (zk_VT E) M_L_lostWithout (C_L_lostWithout E) P PX K n 4 [l0, some (.int y1), l2, l3] (.int y1 :: r) (σ, sz, k, c)) ∧
  (∀ (n : Nat) (l0 l1 l2 l3 : Option Value) (v0 : Value) (v1 : Value) (v2 : Value) (v3 : Value)  (σ : zk_S) (sz k c : Nat), zk_run E (zk_VT E) M_L_lostWithout (C_L_lostWithout E) P PX K (n + 1) 4 [l0, l1, l2, l3] [v0, v1, v2, v3] (σ, sz, k, c) = (k + 1 ≤ 1 ∧ c + 6 ≤ 6 ∧ (zk_rv (zk_VT E) (fun ci => Nat.beq ci 9) (sp_X10_lostWithout E)) [v1, v0] σ sz (fun v s2 z2 => zk_run E (zk_VT E) M_L_lostWithout (C_L_lostWithout E) P PX K n 7 [l0, l1, l2, l3] (zk_psh v [v2, v3]) (s2, z2, k + 1, c + 6)) (fun X s2 z2 => (match (match Nat.beq 4 4 with
  | true => if X = "java/lang/IndexOutOfBoundsException" then some 12 else none
  | false => none : Option Nat) with
    | some hp => ∀ q : Nat, zk_run E (zk_VT E) M_L_lostWithout (C_L_lostWithout E) P PX K n hp [l0, l1, l2, l3] [.ref q] (s2, z2, k + 1, c + 6)
    | none => PX X s2 z2)))) ∧
  (∀ (n : Nat) (l0 l1 l2 l3 : Option Value) (x : Int32) (r : List Value) (σ : zk_S) (sz k c : Nat), zk_run E (zk_VT E) M_L_lostWithout (C_L_lostWithout E) P PX K (n + 1) 7 [l0, l1, l2, l3] (.int x :: r) (σ, sz, k, c) = zk_run E (zk_VT E) M_L_lostWithout (C_L_lostWithout E) P PX K n 8 [l0, l1, l2, l3] (.long (x.toInt64) :: r) (σ, sz, k, c)) ∧
  (∀ (n : Nat) (l0 l1 l2 l3 : Option Value) (a : Nat) (i : Int32) (x : Int64) (r : List Value) (σ : zk_S) (sz k c : Nat), zk_run E (zk_VT E) M_L_lostWithout (C_L_lostWithout E) P PX K (n + 1) 8 [l0, l1, l2, l3] (.long x :: .int i :: .ref a :: r) (σ, sz, k, c) = zk_lst (zk_view E σ a) (zk_ar E 2) i x (fun e => zk_wrok E σ a e ∧ zk_run E (zk_VT E) M_L_lostWithout (C_L_lostWithout E) P PX K n 9 [l0, l1, l2, l3] r (zk_wr E σ a e, sz, k, c))) ∧
  (∀ (n : Nat) (l0 l1 l2 l3 : Option Value)  (r : List Value) (σ : zk_S) (sz k c : Nat), zk_run E (zk_VT E) M_L_lostWithout (C_L_lostWithout E) P PX K (n + 1) 9 [l0, l1, l2, l3] r (σ, sz, k, c) = zk_run E (zk_VT E) M_L_lostWithout (C_L_lostWithout E) P PX K n 15 [l0, l1, l2, l3] r (σ, sz, k, c)) ∧
  (∀ (n : Nat) (l0 l1 l2 l3 : Option Value) (x : Value) (r : List Value) (σ : zk_S) (sz k c : Nat), zk_run E (zk_VT E) M_L_lostWithout (C_L_lostWithout E) P PX K (n + 1) 12 [l0, l1, l2, l3] (x :: r) (σ, sz, k, c) = (zk_isr x ∧ zk_run E (zk_VT E) M_L_lostWithout (C_L_lostWithout E) P PX K n 13 [l0, l1, zk_kl l2, some (x)] r (σ, sz, k, c))) ∧
  (∀ (n : Nat) (l0 l1 l2 l3 : Option Value)  (r : List Value) (σ : zk_S) (sz k c : Nat), zk_run E (zk_VT E) M_L_lostWithout (C_L_lostWithout E) P PX K (n + 1) 13 [l0, l1, l2, l3] r (σ, sz, k, c) = zk_run E (zk_VT E) M_L_lostWithout (C_L_lostWithout E) P PX K n 14 [l0, l1, l2, l3] (.int (1) :: r) (σ, sz, k, c)) ∧
  (∀ (n : Nat) (l0 l1 l2 l3 : Option Value) (x : Int32)  (σ : zk_S) (sz k c : Nat), zk_run E (zk_VT E) M_L_lostWithout (C_L_lostWithout E) P PX K (n + 1) 14 [l0, l1, l2, l3] [.int x] (σ, sz, k, c) = (zk_nok (some (.int)) x ∧ P (some (.int x)) σ sz ∧ k ≤ 1 ∧ c ≤ 6)) ∧
  (∀ (n : Nat) (l0 l1 l2 l3 : Option Value)  (r : List Value) (σ : zk_S) (sz k c : Nat), zk_run E (zk_VT E) M_L_lostWithout (C_L_lostWithout E) P PX K (n + 1) 15 [l0, l1, l2, l3] r (σ, sz, k, c) = zk_run E (zk_VT E) M_L_lostWithout (C_L_lostWithout E) P PX K n 16 [l0, l1, l2, l3] (.int (0) :: r) (σ, sz, k, c)) ∧
  (∀ (n : Nat) (l0 l1 l2 l3 : Option Value) (x : Int32)  (σ : zk_S) (sz k c : Nat), zk_run E (zk_VT E) M_L_lostWithout (C_L_lostWithout E) P PX K (n + 1) 16 [l0, l1, l2, l3] [.int x] (σ, sz, k, c) = (zk_nok (some (.int)) x ∧ P (some (.int x)) σ sz ∧ k ≤ 1 ∧ c ≤ 6)) ∧
  (∀ (n : Nat) (l0 l1 l2 l3 : Option Value) (r : List Value) (w : zk_W zk_S), zk_go E (zk_VT E) M_L_lostWithout (C_L_lostWithout E) P PX K n 0 [l0, l1, l2, l3] r w = zk_run E (zk_VT E) M_L_lostWithout (C_L_lostWithout E) P PX K (n + 1) 0 [l0, l1, l2, l3] r w) := ⟨by intros; rfl, by intros; rfl, by intros; rfl, by intros; rfl, by intros; rfl, by intros; rfl, by intros; rfl, by intros; rfl, by intros; rfl, by intros; rfl, by intros; rfl, by intros; rfl, by intros; rfl, by intros; rfl⟩
set_option maxHeartbeats 4000000 in
theorem vc_L_lostWithout (E : zk_E) : zk_VCH E (zk_VT E) M_L_lostWithout (C_L_lostWithout E) 4 (sp_L_lostWithout E) := by
  intro av σ sz P h
  obtain ⟨J, N, Q, O, U⟩ := σ
  unfold sp_L_lostWithout at h
  split at h
  case h_2 => exact h.elim
  rename_i a r o
  refine ⟨Nat.le_of_ble_eq_true rfl, fun G hG => ?_⟩
  change G 0 [some (.ref a), some (.int r), some (.ref o), none] [] ((J, N, Q, O, U), sz, 0, 0)
  try dsimp only at h
  obtain ⟨rfl, rfl, hli, h⟩ := h
  have hms := hli.2.1.1
  unfold R_lostWithout at h
  dsimp only at h
  (refine hG 900 _ _ _ _ ?_; simp only [r_L_lostWithout, zk_kl_none, zk_kl_int, zk_kl_ref, zk_kl_null, zk_kl_long, zk_kl_rf, zk_isr_ref, zk_isr_null, zk_isr_rf9, zk_c1_int, zk_c1_ref, zk_c1_null, zk_c1_rf, zk_psh_some, zk_psh_none, zk_nok_int, zk_nok_bool0, zk_nok_bool1, zk_nok_b, zk_fok_0, zk_fok_1, zk_fok_2, zk_fok_n, zk_fok_rf, zb_f, zb_p, zb_i, zb_a, zb_s, zk_nth_0, zk_nth_s, zk_fld_o, zk_put_o, zk_rv_eq, zk_ri_eq, zk_is_o, List.mem_cons, List.not_mem_nil, or_false, false_or, or_true, true_or, and_true, true_and, not_false_iff, not_true_eq_false, true_implies, false_implies, imp_self, implies_true, forall_const, zk_lit, zk_uj_ap, zk_un_ap, zk_un_un, zk_uj_uj, Nat.reduceEqDiff, eq_self, zk_bq, Bool.true_or, Bool.false_or, Nat.le_refl, Nat.zero_add, Nat.add_zero, Nat.reduceAdd, Nat.reduceLeDiff, Nat.le_zero_eq, and_self, and_false, false_and, ite_true, ite_false, Nat.zero_le, List.length_cons, List.length_nil, Option.some.injEq, forall_eq', reduceCtorEq, spe_X10_lostWithout])
  refine ⟨J, N, hli.2, ?_⟩
  refine DRD.mk hms (fun j hj ej => ?_) (fun ej => ?_)
  · refine ⟨fun hc => ?_, fun hc => ?_⟩
    · intro J2 N2 hke hcf
      simp only [r_L_lostWithout, zk_kl_none, zk_kl_int, zk_kl_ref, zk_kl_null, zk_kl_long, zk_kl_rf, zk_isr_ref, zk_isr_null, zk_isr_rf9, zk_c1_int, zk_c1_ref, zk_c1_null, zk_c1_rf, zk_psh_some, zk_psh_none, zk_nok_int, zk_nok_bool0, zk_nok_bool1, zk_nok_b, zk_fok_0, zk_fok_1, zk_fok_2, zk_fok_n, zk_fok_rf, zb_f, zb_p, zb_i, zb_a, zb_s, zk_nth_0, zk_nth_s, zk_fld_o, zk_put_o, zk_rv_eq, zk_ri_eq, zk_is_o, List.mem_cons, List.not_mem_nil, or_false, false_or, or_true, true_or, and_true, true_and, not_false_iff, not_true_eq_false, true_implies, false_implies, imp_self, implies_true, forall_const, zk_lit, zk_uj_ap, zk_un_ap, zk_un_un, zk_uj_uj, Nat.reduceEqDiff, eq_self, zk_bq, Bool.true_or, Bool.false_or, Nat.le_refl, Nat.zero_add, Nat.add_zero, Nat.reduceAdd, Nat.reduceLeDiff, Nat.le_zero_eq, and_self, and_false, false_and, ite_true, ite_false, Nat.zero_le, List.length_cons, List.length_nil, Option.some.injEq, forall_eq', reduceCtorEq, hc_q, hc_s, hc_v, hc_i]
      exact h 0 _ _ (Or.inl ⟨j, hj, ej, Or.inl ⟨hc, ⟨⟨rfl, up_L U _⟩, LC.ke hli hke hcf (Nat.le_refl _)⟩⟩⟩)
    · intro J2 N2 hke hcf
      simp only [r_L_lostWithout, zk_kl_none, zk_kl_int, zk_kl_ref, zk_kl_null, zk_kl_long, zk_kl_rf, zk_isr_ref, zk_isr_null, zk_isr_rf9, zk_c1_int, zk_c1_ref, zk_c1_null, zk_c1_rf, zk_psh_some, zk_psh_none, zk_nok_int, zk_nok_bool0, zk_nok_bool1, zk_nok_b, zk_fok_0, zk_fok_1, zk_fok_2, zk_fok_n, zk_fok_rf, zb_f, zb_p, zb_i, zb_a, zb_s, zk_nth_0, zk_nth_s, zk_fld_o, zk_put_o, zk_rv_eq, zk_ri_eq, zk_is_o, List.mem_cons, List.not_mem_nil, or_false, false_or, or_true, true_or, and_true, true_and, not_false_iff, not_true_eq_false, true_implies, false_implies, imp_self, implies_true, forall_const, zk_lit, zk_uj_ap, zk_un_ap, zk_un_un, zk_uj_uj, Nat.reduceEqDiff, eq_self, zk_bq, Bool.true_or, Bool.false_or, Nat.le_refl, Nat.zero_add, Nat.add_zero, Nat.reduceAdd, Nat.reduceLeDiff, Nat.le_zero_eq, and_self, and_false, false_and, ite_true, ite_false, Nat.zero_le, List.length_cons, List.length_nil, Option.some.injEq, forall_eq', reduceCtorEq, hc_q, hc_s, hc_v, hc_i]
      exact h 0 _ _ (Or.inl ⟨j, hj, ej, Or.inr ⟨hc, ⟨⟨rfl, up_L U _⟩, LC.ke hli hke hcf (Nat.le_refl _)⟩⟩⟩)
  · intro J2 N2 z2 hke hcf hz
    simp only [r_L_lostWithout, zk_kl_none, zk_kl_int, zk_kl_ref, zk_kl_null, zk_kl_long, zk_kl_rf, zk_isr_ref, zk_isr_null, zk_isr_rf9, zk_c1_int, zk_c1_ref, zk_c1_null, zk_c1_rf, zk_psh_some, zk_psh_none, zk_nok_int, zk_nok_bool0, zk_nok_bool1, zk_nok_b, zk_fok_0, zk_fok_1, zk_fok_2, zk_fok_n, zk_fok_rf, zb_f, zb_p, zb_i, zb_a, zb_s, zk_nth_0, zk_nth_s, zk_fld_o, zk_put_o, zk_rv_eq, zk_ri_eq, zk_is_o, List.mem_cons, List.not_mem_nil, or_false, false_or, or_true, true_or, and_true, true_and, not_false_iff, not_true_eq_false, true_implies, false_implies, imp_self, implies_true, forall_const, zk_lit, zk_uj_ap, zk_un_ap, zk_un_un, zk_uj_uj, Nat.reduceEqDiff, eq_self, zk_bq, Bool.true_or, Bool.false_or, Nat.le_refl, Nat.zero_add, Nat.add_zero, Nat.reduceAdd, Nat.reduceLeDiff, Nat.le_zero_eq, and_self, and_false, false_and, ite_true, ite_false, Nat.zero_le, List.length_cons, List.length_nil, Option.some.injEq, forall_eq', reduceCtorEq, hc_q, hc_s, hc_v, hc_i]
    exact h 1 _ _ (Or.inr ⟨ej, ⟨rfl, LC.ke hli hke hcf hz⟩⟩)
def hh_L_lostWithout : List (Nat × Nat × Nat × Nat) := [(0, 9, 12, 21)]
theorem HO_L_lostWithout : zk_HO RL hh_L_lostWithout M_L_lostWithout := by
  intro pc X hp h
  have h2 : (match Nat.beq pc 4 with | true => (if X = "java/lang/IndexOutOfBoundsException" then some 12 else none) | false => none : Option Nat) = some hp := h
  clear h
  split at h2
  · rename_i e
    have e := Nat.eq_of_beq_eq_true e
    subst e
    by_cases e0 : X = "java/lang/IndexOutOfBoundsException"
    · subst e0
      rw [if_pos rfl] at h2
      cases h2
      exact ⟨[], ⟨0, 9, 12, 21⟩, [], rfl, fun _ h => absurd h List.not_mem_nil, by decide, by decide, rfl, "java/lang/IndexOutOfBoundsException", zk_wi 545 (by decide +kernel) rfl, zk_tb 556 (by decide +kernel)⟩
    rw [if_neg e0] at h2
    cases h2
  · cases h2
theorem ct_L_lostWithout {l : Launch} (hl : l.stackTraces = false) (E : zk_E) : zk_CH l E (zk_VT E) yL_lostWithout cL_lostWithout 4 (some (.int)) hh_L_lostWithout rm_L_lostWithout (sp_L_lostWithout E) := by
  refine zk_methH (M := M_L_lostWithout) (C := C_L_lostWithout E) (by decide +kernel) rfl HO_L_lostWithout (zk_VT_ok E) MO_L_lostWithout TO_L_lostWithout (fun _ => rfl) ?_ (vc_L_lostWithout E)
  exact fun p e s m args below meth c X pc n mc ms sp2 h => by
    have h2 := zk_lka_mem h
    simp only [List.mem_cons, List.not_mem_nil, or_false, Prod.mk.injEq] at h2
    rcases h2 with ⟨rfl, rfl, rfl, rfl, rfl⟩
    exact zk_coV (idx := 104) X (ct_X10_lostWithout hl E) (List.forall_mem_cons.mpr ⟨zk_wi 952 (by decide +kernel) rfl, List.forall_mem_cons.mpr ⟨zk_wi 953 (by decide +kernel) rfl, List.forall_mem_cons.mpr ⟨zk_wi 954 (by decide +kernel) rfl, List.forall_mem_cons.mpr ⟨zk_wi 1 (by decide +kernel) rfl, List.forall_mem_cons.mpr ⟨zk_wi 955 (by decide +kernel) rfl, fun _ h => absurd h List.not_mem_nil⟩⟩⟩⟩⟩) (fun ci h => by
      have h := Nat.eq_of_beq_eq_true h
      subst h
      exact ⟨_, _, rfl⟩) (by decide +kernel) ⟨by decide, by decide, by decide +kernel⟩ ⟨by decide, by decide⟩
def R_timeWith (E : zk_E) (σ : zk_S) (sz : Nat) (r : Int32) (w : Int32) (k : Int32) (σ2 : zk_S) (sz2 : Nat) : Prop := DRD σ.1 σ.2.1 r (fun j => CD (m_isIn w 1 6) (WN E σ sz σ2 sz2 k 2) (WO E σ sz σ2 sz2 k (a_time σ.1 σ.2.1 (nI j) w.toNatClampNeg).toInt64 σ.1 σ.2.1)) (WN E σ sz σ2 sz2 k 1)
def sp_L_timeWith (E : zk_E) : zk_Sp zk_S := fun av σ sz P PX => match av with
  | [.ref a, .int r, .int w, .ref o] => a = zk_ad E 0 ∧ o = zk_ad E 54 ∧ LI E sz σ ∧ ∀ k σ2 sz2, R_timeWith E σ sz r w k σ2 sz2 → P (some (.int k)) σ2 sz2
  | _ => False
theorem spe_L_timeWith (E : zk_E) (a : Nat) (r : Int32) (w : Int32) (o : Nat) (σ : zk_S) (sz : Nat) (P : zk_P zk_S) (PX : zk_X zk_S) : sp_L_timeWith E [.ref a, .int r, .int w, .ref o] σ sz P PX = (a = zk_ad E 0 ∧ o = zk_ad E 54 ∧ LI E sz σ ∧ ∀ k σ2 sz2, R_timeWith E σ sz r w k σ2 sz2 → P (some (.int k)) σ2 sz2) := propext Iff.rfl
def C_L_timeWith (E : zk_E) : zk_Cl zk_S := zk_lka [(5, 3, 2, 12, zk_rv (zk_VT E) (fun ci => Nat.beq ci 9) (sp_X10_timeWith E))]
theorem r_L_timeWith (E : zk_E) (P : zk_P zk_S) (PX : zk_X zk_S) (K : Nat → zk_L → List Value → zk_W zk_S → Prop) : (∀ (n : Nat) (l0 l1 l2 l4 : Option Value) (y3 : Value) (r : List Value) (σ : zk_S) (sz k c : Nat), zk_run E (zk_VT E) M_L_timeWith (C_L_timeWith E) P PX K (n + 1) 0 [l0, l1, l2, some y3, l4] r (σ, sz, k, c) = (zk_isr y3 ∧ zk_run E (zk_VT E) M_L_timeWith (C_L_timeWith E) P PX K n 1 [l0, l1, l2, some y3, l4] (y3 :: r) (σ, sz, k, c))) ∧
  (∀ (n : Nat) (l0 l1 l2 l3 l4 : Option Value)  (r : List Value) (σ : zk_S) (sz k c : Nat), zk_run E (zk_VT E) M_L_timeWith (C_L_timeWith E) P PX K (n + 1) 1 [l0, l1, l2, l3, l4] r (σ, sz, k, c) = zk_run E (zk_VT E) M_L_timeWith (C_L_timeWith E) P PX K n 2 [l0, l1, l2, l3, l4] (.int (0) :: r) (σ, sz, k, c)) ∧
  (∀ (n : Nat) (l1 l2 l3 l4 : Option Value) (y0 : Value) (r : List Value) (σ : zk_S) (sz k c : Nat), zk_run E (zk_VT E) M_L_timeWith (C_L_timeWith E) P PX K (n + 1) 2 [some y0, l1, l2, l3, l4] r (σ, sz, k, c) = (zk_isr y0 ∧ zk_run E (zk_VT E) M_L_timeWith (C_L_timeWith E) P PX K n 3 [some y0, l1, l2, l3, l4] (y0 :: r) (σ, sz, k, c))) ∧
  (∀ (n : Nat) (l0 l2 l3 l4 : Option Value) (y1 : Int32) (r : List Value) (σ : zk_S) (sz k c : Nat), zk_run E (zk_VT E) M_L_timeWith (C_L_timeWith E) P PX K (n + 1) 3 [l0, some (.int y1), l2, l3, l4] r (σ, sz, k, c) = zk_run E (zk_VT E) M_L_timeWith (C_L_timeWith E) P PX K n 4 [l0, some (.int y1), l2, l3, l4] (.int y1 :: r) (σ, sz, k, c)) ∧
  (∀ (n : Nat) (l0 l1 l3 l4 : Option Value) (y2 : Int32) (r : List Value) (σ : zk_S) (sz k c : Nat), zk_run E (zk_VT E) M_L_timeWith (C_L_timeWith E) P PX K (n + 1) 4 [l0, l1, some (.int y2), l3, l4] r (σ, sz, k, c) = zk_run E (zk_VT E) M_L_timeWith (C_L_timeWith E) P PX K n 5 [l0, l1, some (.int y2), l3, l4] (.int y2 :: r) (σ, sz, k, c)) ∧
  (∀ (n : Nat) (l0 l1 l2 l3 l4 : Option Value) (v0 : Value) (v1 : Value) (v2 : Value) (v3 : Value) (v4 : Value)  (σ : zk_S) (sz k c : Nat), zk_run E (zk_VT E) M_L_timeWith (C_L_timeWith E) P PX K (n + 1) 5 [l0, l1, l2, l3, l4] [v0, v1, v2, v3, v4] (σ, sz, k, c) = (k + 2 ≤ 2 ∧ c + 12 ≤ 12 ∧ (zk_rv (zk_VT E) (fun ci => Nat.beq ci 9) (sp_X10_timeWith E)) [v2, v1, v0] σ sz (fun v s2 z2 => zk_run E (zk_VT E) M_L_timeWith (C_L_timeWith E) P PX K n 8 [l0, l1, l2, l3, l4] (zk_psh v [v3, v4]) (s2, z2, k + 2, c + 12)) (fun X s2 z2 => (match (match Nat.beq 5 5 with
  | true => if X = "java/lang/IndexOutOfBoundsException" then some 13 else if X = "java/lang/IllegalArgumentException" then some 17 else none
  | false => none : Option Nat) with
    | some hp => ∀ q : Nat, zk_run E (zk_VT E) M_L_timeWith (C_L_timeWith E) P PX K n hp [l0, l1, l2, l3, l4] [.ref q] (s2, z2, k + 2, c + 12)
    | none => PX X s2 z2)))) ∧
  (∀ (n : Nat) (l0 l1 l2 l3 l4 : Option Value) (x : Int32) (r : List Value) (σ : zk_S) (sz k c : Nat), zk_run E (zk_VT E) M_L_timeWith (C_L_timeWith E) P PX K (n + 1) 8 [l0, l1, l2, l3, l4] (.int x :: r) (σ, sz, k, c) = zk_run E (zk_VT E) M_L_timeWith (C_L_timeWith E) P PX K n 9 [l0, l1, l2, l3, l4] (.long (x.toInt64) :: r) (σ, sz, k, c)) ∧
  (∀ (n : Nat) (l0 l1 l2 l3 l4 : Option Value) (a : Nat) (i : Int32) (x : Int64) (r : List Value) (σ : zk_S) (sz k c : Nat), zk_run E (zk_VT E) M_L_timeWith (C_L_timeWith E) P PX K (n + 1) 9 [l0, l1, l2, l3, l4] (.long x :: .int i :: .ref a :: r) (σ, sz, k, c) = zk_lst (zk_view E σ a) (zk_ar E 2) i x (fun e => zk_wrok E σ a e ∧ zk_run E (zk_VT E) M_L_timeWith (C_L_timeWith E) P PX K n 10 [l0, l1, l2, l3, l4] r (zk_wr E σ a e, sz, k, c))) ∧
  (∀ (n : Nat) (l0 l1 l2 l3 l4 : Option Value)  (r : List Value) (σ : zk_S) (sz k c : Nat), zk_run E (zk_VT E) M_L_timeWith (C_L_timeWith E) P PX K (n + 1) 10 [l0, l1, l2, l3, l4] r (σ, sz, k, c) = zk_run E (zk_VT E) M_L_timeWith (C_L_timeWith E) P PX K n 21 [l0, l1, l2, l3, l4] r (σ, sz, k, c)) ∧
  (∀ (n : Nat) (l0 l1 l2 l3 l4 : Option Value) (x : Value) (r : List Value) (σ : zk_S) (sz k c : Nat), zk_run E (zk_VT E) M_L_timeWith (C_L_timeWith E) P PX K (n + 1) 13 [l0, l1, l2, l3, l4] (x :: r) (σ, sz, k, c) = (zk_isr x ∧ zk_run E (zk_VT E) M_L_timeWith (C_L_timeWith E) P PX K n 15 [l0, l1, l2, zk_kl l3, some (x)] r (σ, sz, k, c))) ∧
  (∀ (n : Nat) (l0 l1 l2 l3 l4 : Option Value)  (r : List Value) (σ : zk_S) (sz k c : Nat), zk_run E (zk_VT E) M_L_timeWith (C_L_timeWith E) P PX K (n + 1) 15 [l0, l1, l2, l3, l4] r (σ, sz, k, c) = zk_run E (zk_VT E) M_L_timeWith (C_L_timeWith E) P PX K n 16 [l0, l1, l2, l3, l4] (.int (1) :: r) (σ, sz, k, c)) ∧
  (∀ (n : Nat) (l0 l1 l2 l3 l4 : Option Value) (x : Int32)  (σ : zk_S) (sz k c : Nat), zk_run E (zk_VT E) M_L_timeWith (C_L_timeWith E) P PX K (n + 1) 16 [l0, l1, l2, l3, l4] [.int x] (σ, sz, k, c) = (zk_nok (some (.int)) x ∧ P (some (.int x)) σ sz ∧ k ≤ 2 ∧ c ≤ 12)) ∧
  (∀ (n : Nat) (l0 l1 l2 l3 l4 : Option Value) (x : Value) (r : List Value) (σ : zk_S) (sz k c : Nat), zk_run E (zk_VT E) M_L_timeWith (C_L_timeWith E) P PX K (n + 1) 17 [l0, l1, l2, l3, l4] (x :: r) (σ, sz, k, c) = (zk_isr x ∧ zk_run E (zk_VT E) M_L_timeWith (C_L_timeWith E) P PX K n 19 [l0, l1, l2, zk_kl l3, some (x)] r (σ, sz, k, c))) ∧
  (∀ (n : Nat) (l0 l1 l2 l3 l4 : Option Value)  (r : List Value) (σ : zk_S) (sz k c : Nat), zk_run E (zk_VT E) M_L_timeWith (C_L_timeWith E) P PX K (n + 1) 19 [l0, l1, l2, l3, l4] r (σ, sz, k, c) = zk_run E (zk_VT E) M_L_timeWith (C_L_timeWith E) P PX K n 20 [l0, l1, l2, l3, l4] (.int (2) :: r) (σ, sz, k, c)) ∧
  (∀ (n : Nat) (l0 l1 l2 l3 l4 : Option Value) (x : Int32)  (σ : zk_S) (sz k c : Nat), zk_run E (zk_VT E) M_L_timeWith (C_L_timeWith E) P PX K (n + 1) 20 [l0, l1, l2, l3, l4] [.int x] (σ, sz, k, c) = (zk_nok (some (.int)) x ∧ P (some (.int x)) σ sz ∧ k ≤ 2 ∧ c ≤ 12)) ∧
  (∀ (n : Nat) (l0 l1 l2 l3 l4 : Option Value)  (r : List Value) (σ : zk_S) (sz k c : Nat), zk_run E (zk_VT E) M_L_timeWith (C_L_timeWith E) P PX K (n + 1) 21 [l0, l1, l2, l3, l4] r (σ, sz, k, c) = zk_run E (zk_VT E) M_L_timeWith (C_L_timeWith E) P PX K n 22 [l0, l1, l2, l3, l4] (.int (0) :: r) (σ, sz, k, c)) ∧
  (∀ (n : Nat) (l0 l1 l2 l3 l4 : Option Value) (x : Int32)  (σ : zk_S) (sz k c : Nat), zk_run E (zk_VT E) M_L_timeWith (C_L_timeWith E) P PX K (n + 1) 22 [l0, l1, l2, l3, l4] [.int x] (σ, sz, k, c) = (zk_nok (some (.int)) x ∧ P (some (.int x)) σ sz ∧ k ≤ 2 ∧ c ≤ 12)) ∧
  (∀ (n : Nat) (l0 l1 l2 l3 l4 : Option Value) (r : List Value) (w : zk_W zk_S), zk_go E (zk_VT E) M_L_timeWith (C_L_timeWith E) P PX K n 0 [l0, l1, l2, l3, l4] r w = zk_run E (zk_VT E) M_L_timeWith (C_L_timeWith E) P PX K (n + 1) 0 [l0, l1, l2, l3, l4] r w) := ⟨by intros; rfl, by intros; rfl, by intros; rfl, by intros; rfl, by intros; rfl, by intros; rfl, by intros; rfl, by intros; rfl, by intros; rfl, by intros; rfl, by intros; rfl, by intros; rfl, by intros; rfl, by intros; rfl, by intros; rfl, by intros; rfl, by intros; rfl, by intros; rfl⟩
set_option maxHeartbeats 4000000 in
theorem vc_L_timeWith (E : zk_E) : zk_VCH E (zk_VT E) M_L_timeWith (C_L_timeWith E) 5 (sp_L_timeWith E) := by
  intro av σ sz P h
  obtain ⟨J, N, Q, O, U⟩ := σ
  unfold sp_L_timeWith at h
  split at h
  case h_2 => exact h.elim
  rename_i a r w o
  refine ⟨Nat.le_of_ble_eq_true rfl, fun G hG => ?_⟩
  change G 0 [some (.ref a), some (.int r), some (.int w), some (.ref o), none] [] ((J, N, Q, O, U), sz, 0, 0)
  try dsimp only at h
  obtain ⟨rfl, rfl, hli, h⟩ := h
  have hms := hli.2.1.1
  unfold R_timeWith at h
  dsimp only at h
  (refine hG 900 _ _ _ _ ?_; simp only [r_L_timeWith, zk_kl_none, zk_kl_int, zk_kl_ref, zk_kl_null, zk_kl_long, zk_kl_rf, zk_isr_ref, zk_isr_null, zk_isr_rf9, zk_c1_int, zk_c1_ref, zk_c1_null, zk_c1_rf, zk_psh_some, zk_psh_none, zk_nok_int, zk_nok_bool0, zk_nok_bool1, zk_nok_b, zk_fok_0, zk_fok_1, zk_fok_2, zk_fok_n, zk_fok_rf, zb_f, zb_p, zb_i, zb_a, zb_s, zk_nth_0, zk_nth_s, zk_fld_o, zk_put_o, zk_rv_eq, zk_ri_eq, zk_is_o, List.mem_cons, List.not_mem_nil, or_false, false_or, or_true, true_or, and_true, true_and, not_false_iff, not_true_eq_false, true_implies, false_implies, imp_self, implies_true, forall_const, zk_lit, zk_uj_ap, zk_un_ap, zk_un_un, zk_uj_uj, Nat.reduceEqDiff, eq_self, zk_bq, Bool.true_or, Bool.false_or, Nat.le_refl, Nat.zero_add, Nat.add_zero, Nat.reduceAdd, Nat.reduceLeDiff, Nat.le_zero_eq, and_self, and_false, false_and, ite_true, ite_false, Nat.zero_le, List.length_cons, List.length_nil, Option.some.injEq, forall_eq', reduceCtorEq, spe_X10_timeWith])
  refine ⟨J, N, hli.2, ?_⟩
  refine DRD.mk hms (fun j hj ej => ?_) (fun ej => ?_)
  · refine ⟨fun hc => ?_, fun hc => ?_⟩
    · intro J2 N2 z2 hke hcf hz
      simp only [r_L_timeWith, zk_kl_none, zk_kl_int, zk_kl_ref, zk_kl_null, zk_kl_long, zk_kl_rf, zk_isr_ref, zk_isr_null, zk_isr_rf9, zk_c1_int, zk_c1_ref, zk_c1_null, zk_c1_rf, zk_psh_some, zk_psh_none, zk_nok_int, zk_nok_bool0, zk_nok_bool1, zk_nok_b, zk_fok_0, zk_fok_1, zk_fok_2, zk_fok_n, zk_fok_rf, zb_f, zb_p, zb_i, zb_a, zb_s, zk_nth_0, zk_nth_s, zk_fld_o, zk_put_o, zk_rv_eq, zk_ri_eq, zk_is_o, List.mem_cons, List.not_mem_nil, or_false, false_or, or_true, true_or, and_true, true_and, not_false_iff, not_true_eq_false, true_implies, false_implies, imp_self, implies_true, forall_const, zk_lit, zk_uj_ap, zk_un_ap, zk_un_un, zk_uj_uj, Nat.reduceEqDiff, eq_self, zk_bq, Bool.true_or, Bool.false_or, Nat.le_refl, Nat.zero_add, Nat.add_zero, Nat.reduceAdd, Nat.reduceLeDiff, Nat.le_zero_eq, and_self, and_false, false_and, ite_true, ite_false, Nat.zero_le, List.length_cons, List.length_nil, Option.some.injEq, forall_eq', reduceCtorEq, hc_q, hc_s, hc_v, hc_i]
      exact h 2 _ _ (Or.inl ⟨j, hj, ej, Or.inl ⟨hc, ⟨rfl, LC.ke hli hke hcf hz⟩⟩⟩)
    · intro J2 N2 hke hcf
      simp only [r_L_timeWith, zk_kl_none, zk_kl_int, zk_kl_ref, zk_kl_null, zk_kl_long, zk_kl_rf, zk_isr_ref, zk_isr_null, zk_isr_rf9, zk_c1_int, zk_c1_ref, zk_c1_null, zk_c1_rf, zk_psh_some, zk_psh_none, zk_nok_int, zk_nok_bool0, zk_nok_bool1, zk_nok_b, zk_fok_0, zk_fok_1, zk_fok_2, zk_fok_n, zk_fok_rf, zb_f, zb_p, zb_i, zb_a, zb_s, zk_nth_0, zk_nth_s, zk_fld_o, zk_put_o, zk_rv_eq, zk_ri_eq, zk_is_o, List.mem_cons, List.not_mem_nil, or_false, false_or, or_true, true_or, and_true, true_and, not_false_iff, not_true_eq_false, true_implies, false_implies, imp_self, implies_true, forall_const, zk_lit, zk_uj_ap, zk_un_ap, zk_un_un, zk_uj_uj, Nat.reduceEqDiff, eq_self, zk_bq, Bool.true_or, Bool.false_or, Nat.le_refl, Nat.zero_add, Nat.add_zero, Nat.reduceAdd, Nat.reduceLeDiff, Nat.le_zero_eq, and_self, and_false, false_and, ite_true, ite_false, Nat.zero_le, List.length_cons, List.length_nil, Option.some.injEq, forall_eq', reduceCtorEq, hc_q, hc_s, hc_v, hc_i]
      exact h 0 _ _ (Or.inl ⟨j, hj, ej, Or.inr ⟨hc, ⟨⟨rfl, up_L U _⟩, LC.ke hli hke hcf (Nat.le_refl _)⟩⟩⟩)
  · intro J2 N2 z2 hke hcf hz
    simp only [r_L_timeWith, zk_kl_none, zk_kl_int, zk_kl_ref, zk_kl_null, zk_kl_long, zk_kl_rf, zk_isr_ref, zk_isr_null, zk_isr_rf9, zk_c1_int, zk_c1_ref, zk_c1_null, zk_c1_rf, zk_psh_some, zk_psh_none, zk_nok_int, zk_nok_bool0, zk_nok_bool1, zk_nok_b, zk_fok_0, zk_fok_1, zk_fok_2, zk_fok_n, zk_fok_rf, zb_f, zb_p, zb_i, zb_a, zb_s, zk_nth_0, zk_nth_s, zk_fld_o, zk_put_o, zk_rv_eq, zk_ri_eq, zk_is_o, List.mem_cons, List.not_mem_nil, or_false, false_or, or_true, true_or, and_true, true_and, not_false_iff, not_true_eq_false, true_implies, false_implies, imp_self, implies_true, forall_const, zk_lit, zk_uj_ap, zk_un_ap, zk_un_un, zk_uj_uj, Nat.reduceEqDiff, eq_self, zk_bq, Bool.true_or, Bool.false_or, Nat.le_refl, Nat.zero_add, Nat.add_zero, Nat.reduceAdd, Nat.reduceLeDiff, Nat.le_zero_eq, and_self, and_false, false_and, ite_true, ite_false, Nat.zero_le, List.length_cons, List.length_nil, Option.some.injEq, forall_eq', reduceCtorEq, hc_q, hc_s, hc_v, hc_i]
    exact h 1 _ _ (Or.inr ⟨ej, ⟨rfl, LC.ke hli hke hcf hz⟩⟩)
def hh_L_timeWith : List (Nat × Nat × Nat × Nat) := [(0, 10, 13, 21), (0, 10, 17, 13)]
theorem HO_L_timeWith : zk_HO RL hh_L_timeWith M_L_timeWith := by
  intro pc X hp h
  have h2 : (match Nat.beq pc 5 with | true => (if X = "java/lang/IndexOutOfBoundsException" then some 13 else if X = "java/lang/IllegalArgumentException" then some 17 else none) | false => none : Option Nat) = some hp := h
  clear h
  split at h2
  · rename_i e
    have e := Nat.eq_of_beq_eq_true e
    subst e
    by_cases e0 : X = "java/lang/IndexOutOfBoundsException"
    · subst e0
      rw [if_pos rfl] at h2
      cases h2
      exact ⟨[], ⟨0, 10, 13, 21⟩, [⟨0, 10, 17, 13⟩], rfl, fun _ h => absurd h List.not_mem_nil, by decide, by decide, rfl, "java/lang/IndexOutOfBoundsException", zk_wi 545 (by decide +kernel) rfl, zk_tb 556 (by decide +kernel)⟩
    by_cases e1 : X = "java/lang/IllegalArgumentException"
    · subst e1
      rw [if_neg e0, if_pos rfl] at h2
      cases h2
      exact ⟨[⟨0, 10, 13, 21⟩], ⟨0, 10, 17, 13⟩, [], rfl, List.forall_mem_cons.mpr ⟨⟨by decide, "java/lang/IndexOutOfBoundsException", zk_wi 545 (by decide +kernel) rfl, by decide⟩, fun _ h => absurd h List.not_mem_nil⟩, by decide, by decide, rfl, "java/lang/IllegalArgumentException", zk_wi 394 (by decide +kernel) rfl, zk_tb 405 (by decide +kernel)⟩
    rw [if_neg e0, if_neg e1] at h2
    cases h2
  · cases h2
theorem ct_L_timeWith {l : Launch} (hl : l.stackTraces = false) (E : zk_E) : zk_CH l E (zk_VT E) yL_timeWith cL_timeWith 5 (some (.int)) hh_L_timeWith rm_L_timeWith (sp_L_timeWith E) := by
  refine zk_methH (M := M_L_timeWith) (C := C_L_timeWith E) (by decide +kernel) rfl HO_L_timeWith (zk_VT_ok E) MO_L_timeWith TO_L_timeWith (fun _ => rfl) ?_ (vc_L_timeWith E)
  exact fun p e s m args below meth c X pc n mc ms sp2 h => by
    have h2 := zk_lka_mem h
    simp only [List.mem_cons, List.not_mem_nil, or_false, Prod.mk.injEq] at h2
    rcases h2 with ⟨rfl, rfl, rfl, rfl, rfl⟩
    exact zk_coV (idx := 107) X (ct_X10_timeWith hl E) (List.forall_mem_cons.mpr ⟨zk_wi 963 (by decide +kernel) rfl, List.forall_mem_cons.mpr ⟨zk_wi 964 (by decide +kernel) rfl, List.forall_mem_cons.mpr ⟨zk_wi 965 (by decide +kernel) rfl, List.forall_mem_cons.mpr ⟨zk_wi 1 (by decide +kernel) rfl, List.forall_mem_cons.mpr ⟨zk_wi 966 (by decide +kernel) rfl, fun _ h => absurd h List.not_mem_nil⟩⟩⟩⟩⟩) (fun ci h => by
      have h := Nat.eq_of_beq_eq_true h
      subst h
      exact ⟨_, _, rfl⟩) (by decide +kernel) ⟨by decide, by decide, by decide +kernel⟩ ⟨by decide, by decide⟩
def R_mostPeople (E : zk_E) (σ : zk_S) (sz : Nat) (r : Int32) (k : Int32) (σ2 : zk_S) (sz2 : Nat) : Prop := RD σ.1 σ.2.1 r (fun j => WO E σ sz σ2 sz2 k (a_most σ.1 σ.2.1 j).toInt64 σ.1 σ.2.1) (WN E σ sz σ2 sz2 k 1)
def sp_L_mostPeople (E : zk_E) : zk_Sp zk_S := fun av σ sz P PX => match av with
  | [.ref a, .int r, .ref o] => a = zk_ad E 0 ∧ o = zk_ad E 54 ∧ LI E sz σ ∧ ∀ k σ2 sz2, R_mostPeople E σ sz r k σ2 sz2 → P (some (.int k)) σ2 sz2
  | _ => False
theorem spe_L_mostPeople (E : zk_E) (a : Nat) (r : Int32) (o : Nat) (σ : zk_S) (sz : Nat) (P : zk_P zk_S) (PX : zk_X zk_S) : sp_L_mostPeople E [.ref a, .int r, .ref o] σ sz P PX = (a = zk_ad E 0 ∧ o = zk_ad E 54 ∧ LI E sz σ ∧ ∀ k σ2 sz2, R_mostPeople E σ sz r k σ2 sz2 → P (some (.int k)) σ2 sz2) := propext Iff.rfl
def C_L_mostPeople (E : zk_E) : zk_Cl zk_S := zk_lka [(4, 2, 1, 6, zk_rv (zk_VT E) (fun ci => Nat.beq ci 9) (sp_X10_mostPeople E))]
theorem r_L_mostPeople (E : zk_E) (P : zk_P zk_S) (PX : zk_X zk_S) (K : Nat → zk_L → List Value → zk_W zk_S → Prop) : (∀ (n : Nat) (l0 l1 l3 : Option Value) (y2 : Value) (r : List Value) (σ : zk_S) (sz k c : Nat), zk_run E (zk_VT E) M_L_mostPeople (C_L_mostPeople E) P PX K (n + 1) 0 [l0, l1, some y2, l3] r (σ, sz, k, c) = (zk_isr y2 ∧ zk_run E (zk_VT E) M_L_mostPeople (C_L_mostPeople E) P PX K n 1 [l0, l1, some y2, l3] (y2 :: r) (σ, sz, k, c))) ∧
  (∀ (n : Nat) (l0 l1 l2 l3 : Option Value)  (r : List Value) (σ : zk_S) (sz k c : Nat), zk_run E (zk_VT E) M_L_mostPeople (C_L_mostPeople E) P PX K (n + 1) 1 [l0, l1, l2, l3] r (σ, sz, k, c) = zk_run E (zk_VT E) M_L_mostPeople (C_L_mostPeople E) P PX K n 2 [l0, l1, l2, l3] (.int (0) :: r) (σ, sz, k, c)) ∧
  (∀ (n : Nat) (l1 l2 l3 : Option Value) (y0 : Value) (r : List Value) (σ : zk_S) (sz k c : Nat), zk_run E (zk_VT E) M_L_mostPeople (C_L_mostPeople E) P PX K (n + 1) 2 [some y0, l1, l2, l3] r (σ, sz, k, c) = (zk_isr y0 ∧ zk_run E (zk_VT E) M_L_mostPeople (C_L_mostPeople E) P PX K n 3 [some y0, l1, l2, l3] (y0 :: r) (σ, sz, k, c))) ∧
  (∀ (n : Nat) (l0 l2 l3 : Option Value) (y1 : Int32) (r : List Value) (σ : zk_S) (sz k c : Nat), zk_run E (zk_VT E) M_L_mostPeople (C_L_mostPeople E) P PX K (n + 1) 3 [l0, some (.int y1), l2, l3] r (σ, sz, k, c) = zk_run E (zk_VT E) M_L_mostPeople (C_L_mostPeople E) P PX K n 4 [l0, some (.int y1), l2, l3] (.int y1 :: r) (σ, sz, k, c)) ∧
  (∀ (n : Nat) (l0 l1 l2 l3 : Option Value) (v0 : Value) (v1 : Value) (v2 : Value) (v3 : Value)  (σ : zk_S) (sz k c : Nat), zk_run E (zk_VT E) M_L_mostPeople (C_L_mostPeople E) P PX K (n + 1) 4 [l0, l1, l2, l3] [v0, v1, v2, v3] (σ, sz, k, c) = (k + 1 ≤ 1 ∧ c + 6 ≤ 6 ∧ (zk_rv (zk_VT E) (fun ci => Nat.beq ci 9) (sp_X10_mostPeople E)) [v1, v0] σ sz (fun v s2 z2 => zk_run E (zk_VT E) M_L_mostPeople (C_L_mostPeople E) P PX K n 7 [l0, l1, l2, l3] (zk_psh v [v2, v3]) (s2, z2, k + 1, c + 6)) (fun X s2 z2 => (match (match Nat.beq 4 4 with
  | true => if X = "java/lang/IndexOutOfBoundsException" then some 12 else none
  | false => none : Option Nat) with
    | some hp => ∀ q : Nat, zk_run E (zk_VT E) M_L_mostPeople (C_L_mostPeople E) P PX K n hp [l0, l1, l2, l3] [.ref q] (s2, z2, k + 1, c + 6)
    | none => PX X s2 z2)))) ∧
  (∀ (n : Nat) (l0 l1 l2 l3 : Option Value) (x : Int32) (r : List Value) (σ : zk_S) (sz k c : Nat), zk_run E (zk_VT E) M_L_mostPeople (C_L_mostPeople E) P PX K (n + 1) 7 [l0, l1, l2, l3] (.int x :: r) (σ, sz, k, c) = zk_run E (zk_VT E) M_L_mostPeople (C_L_mostPeople E) P PX K n 8 [l0, l1, l2, l3] (.long (x.toInt64) :: r) (σ, sz, k, c)) ∧
  (∀ (n : Nat) (l0 l1 l2 l3 : Option Value) (a : Nat) (i : Int32) (x : Int64) (r : List Value) (σ : zk_S) (sz k c : Nat), zk_run E (zk_VT E) M_L_mostPeople (C_L_mostPeople E) P PX K (n + 1) 8 [l0, l1, l2, l3] (.long x :: .int i :: .ref a :: r) (σ, sz, k, c) = zk_lst (zk_view E σ a) (zk_ar E 2) i x (fun e => zk_wrok E σ a e ∧ zk_run E (zk_VT E) M_L_mostPeople (C_L_mostPeople E) P PX K n 9 [l0, l1, l2, l3] r (zk_wr E σ a e, sz, k, c))) ∧
  (∀ (n : Nat) (l0 l1 l2 l3 : Option Value)  (r : List Value) (σ : zk_S) (sz k c : Nat), zk_run E (zk_VT E) M_L_mostPeople (C_L_mostPeople E) P PX K (n + 1) 9 [l0, l1, l2, l3] r (σ, sz, k, c) = zk_run E (zk_VT E) M_L_mostPeople (C_L_mostPeople E) P PX K n 15 [l0, l1, l2, l3] r (σ, sz, k, c)) ∧
  (∀ (n : Nat) (l0 l1 l2 l3 : Option Value) (x : Value) (r : List Value) (σ : zk_S) (sz k c : Nat), zk_run E (zk_VT E) M_L_mostPeople (C_L_mostPeople E) P PX K (n + 1) 12 [l0, l1, l2, l3] (x :: r) (σ, sz, k, c) = (zk_isr x ∧ zk_run E (zk_VT E) M_L_mostPeople (C_L_mostPeople E) P PX K n 13 [l0, l1, zk_kl l2, some (x)] r (σ, sz, k, c))) ∧
  (∀ (n : Nat) (l0 l1 l2 l3 : Option Value)  (r : List Value) (σ : zk_S) (sz k c : Nat), zk_run E (zk_VT E) M_L_mostPeople (C_L_mostPeople E) P PX K (n + 1) 13 [l0, l1, l2, l3] r (σ, sz, k, c) = zk_run E (zk_VT E) M_L_mostPeople (C_L_mostPeople E) P PX K n 14 [l0, l1, l2, l3] (.int (1) :: r) (σ, sz, k, c)) ∧
  (∀ (n : Nat) (l0 l1 l2 l3 : Option Value) (x : Int32)  (σ : zk_S) (sz k c : Nat), zk_run E (zk_VT E) M_L_mostPeople (C_L_mostPeople E) P PX K (n + 1) 14 [l0, l1, l2, l3] [.int x] (σ, sz, k, c) = (zk_nok (some (.int)) x ∧ P (some (.int x)) σ sz ∧ k ≤ 1 ∧ c ≤ 6)) ∧
  (∀ (n : Nat) (l0 l1 l2 l3 : Option Value)  (r : List Value) (σ : zk_S) (sz k c : Nat), zk_run E (zk_VT E) M_L_mostPeople (C_L_mostPeople E) P PX K (n + 1) 15 [l0, l1, l2, l3] r (σ, sz, k, c) = zk_run E (zk_VT E) M_L_mostPeople (C_L_mostPeople E) P PX K n 16 [l0, l1, l2, l3] (.int (0) :: r) (σ, sz, k, c)) ∧
  (∀ (n : Nat) (l0 l1 l2 l3 : Option Value) (x : Int32)  (σ : zk_S) (sz k c : Nat), zk_run E (zk_VT E) M_L_mostPeople (C_L_mostPeople E) P PX K (n + 1) 16 [l0, l1, l2, l3] [.int x] (σ, sz, k, c) = (zk_nok (some (.int)) x ∧ P (some (.int x)) σ sz ∧ k ≤ 1 ∧ c ≤ 6)) ∧
  (∀ (n : Nat) (l0 l1 l2 l3 : Option Value) (r : List Value) (w : zk_W zk_S), zk_go E (zk_VT E) M_L_mostPeople (C_L_mostPeople E) P PX K n 0 [l0, l1, l2, l3] r w = zk_run E (zk_VT E) M_L_mostPeople (C_L_mostPeople E) P PX K (n + 1) 0 [l0, l1, l2, l3] r w) := ⟨by intros; rfl, by intros; rfl, by intros; rfl, by intros; rfl, by intros; rfl, by intros; rfl, by intros; rfl, by intros; rfl, by intros; rfl, by intros; rfl, by intros; rfl, by intros; rfl, by intros; rfl, by intros; rfl⟩
set_option maxHeartbeats 4000000 in
theorem vc_L_mostPeople (E : zk_E) : zk_VCH E (zk_VT E) M_L_mostPeople (C_L_mostPeople E) 4 (sp_L_mostPeople E) := by
  intro av σ sz P h
  obtain ⟨J, N, Q, O, U⟩ := σ
  unfold sp_L_mostPeople at h
  split at h
  case h_2 => exact h.elim
  rename_i a r o
  refine ⟨Nat.le_of_ble_eq_true rfl, fun G hG => ?_⟩
  change G 0 [some (.ref a), some (.int r), some (.ref o), none] [] ((J, N, Q, O, U), sz, 0, 0)
  try dsimp only at h
  obtain ⟨rfl, rfl, hli, h⟩ := h
  have hms := hli.2.1.1
  unfold R_mostPeople at h
  dsimp only at h
  (refine hG 900 _ _ _ _ ?_; simp only [r_L_mostPeople, zk_kl_none, zk_kl_int, zk_kl_ref, zk_kl_null, zk_kl_long, zk_kl_rf, zk_isr_ref, zk_isr_null, zk_isr_rf9, zk_c1_int, zk_c1_ref, zk_c1_null, zk_c1_rf, zk_psh_some, zk_psh_none, zk_nok_int, zk_nok_bool0, zk_nok_bool1, zk_nok_b, zk_fok_0, zk_fok_1, zk_fok_2, zk_fok_n, zk_fok_rf, zb_f, zb_p, zb_i, zb_a, zb_s, zk_nth_0, zk_nth_s, zk_fld_o, zk_put_o, zk_rv_eq, zk_ri_eq, zk_is_o, List.mem_cons, List.not_mem_nil, or_false, false_or, or_true, true_or, and_true, true_and, not_false_iff, not_true_eq_false, true_implies, false_implies, imp_self, implies_true, forall_const, zk_lit, zk_uj_ap, zk_un_ap, zk_un_un, zk_uj_uj, Nat.reduceEqDiff, eq_self, zk_bq, Bool.true_or, Bool.false_or, Nat.le_refl, Nat.zero_add, Nat.add_zero, Nat.reduceAdd, Nat.reduceLeDiff, Nat.le_zero_eq, and_self, and_false, false_and, ite_true, ite_false, Nat.zero_le, List.length_cons, List.length_nil, Option.some.injEq, forall_eq', reduceCtorEq, spe_X10_mostPeople])
  refine ⟨J, N, hli.2, ?_⟩
  refine RD.mk hms (fun j hj ej => ?_) (fun ej => ?_)
  · simp only [r_L_mostPeople, zk_kl_none, zk_kl_int, zk_kl_ref, zk_kl_null, zk_kl_long, zk_kl_rf, zk_isr_ref, zk_isr_null, zk_isr_rf9, zk_c1_int, zk_c1_ref, zk_c1_null, zk_c1_rf, zk_psh_some, zk_psh_none, zk_nok_int, zk_nok_bool0, zk_nok_bool1, zk_nok_b, zk_fok_0, zk_fok_1, zk_fok_2, zk_fok_n, zk_fok_rf, zb_f, zb_p, zb_i, zb_a, zb_s, zk_nth_0, zk_nth_s, zk_fld_o, zk_put_o, zk_rv_eq, zk_ri_eq, zk_is_o, List.mem_cons, List.not_mem_nil, or_false, false_or, or_true, true_or, and_true, true_and, not_false_iff, not_true_eq_false, true_implies, false_implies, imp_self, implies_true, forall_const, zk_lit, zk_uj_ap, zk_un_ap, zk_un_un, zk_uj_uj, Nat.reduceEqDiff, eq_self, zk_bq, Bool.true_or, Bool.false_or, Nat.le_refl, Nat.zero_add, Nat.add_zero, Nat.reduceAdd, Nat.reduceLeDiff, Nat.le_zero_eq, and_self, and_false, false_and, ite_true, ite_false, Nat.zero_le, List.length_cons, List.length_nil, Option.some.injEq, forall_eq', reduceCtorEq, hc_q, hc_s, hc_v, hc_i]
    exact h 0 _ _ (Or.inl ⟨j, hj, ej, ⟨⟨rfl, up_L U _⟩, LC.zy hli (fun _ _ => rfl) (Nat.le_refl _)⟩⟩)
  · intro z2 hz
    simp only [r_L_mostPeople, zk_kl_none, zk_kl_int, zk_kl_ref, zk_kl_null, zk_kl_long, zk_kl_rf, zk_isr_ref, zk_isr_null, zk_isr_rf9, zk_c1_int, zk_c1_ref, zk_c1_null, zk_c1_rf, zk_psh_some, zk_psh_none, zk_nok_int, zk_nok_bool0, zk_nok_bool1, zk_nok_b, zk_fok_0, zk_fok_1, zk_fok_2, zk_fok_n, zk_fok_rf, zb_f, zb_p, zb_i, zb_a, zb_s, zk_nth_0, zk_nth_s, zk_fld_o, zk_put_o, zk_rv_eq, zk_ri_eq, zk_is_o, List.mem_cons, List.not_mem_nil, or_false, false_or, or_true, true_or, and_true, true_and, not_false_iff, not_true_eq_false, true_implies, false_implies, imp_self, implies_true, forall_const, zk_lit, zk_uj_ap, zk_un_ap, zk_un_un, zk_uj_uj, Nat.reduceEqDiff, eq_self, zk_bq, Bool.true_or, Bool.false_or, Nat.le_refl, Nat.zero_add, Nat.add_zero, Nat.reduceAdd, Nat.reduceLeDiff, Nat.le_zero_eq, and_self, and_false, false_and, ite_true, ite_false, Nat.zero_le, List.length_cons, List.length_nil, Option.some.injEq, forall_eq', reduceCtorEq, hc_q, hc_s, hc_v, hc_i]
    exact h 1 _ _ (Or.inr ⟨ej, ⟨rfl, LC.zy hli (fun _ _ => rfl) hz⟩⟩)
def hh_L_mostPeople : List (Nat × Nat × Nat × Nat) := [(0, 9, 12, 21)]
theorem HO_L_mostPeople : zk_HO RL hh_L_mostPeople M_L_mostPeople := by
  intro pc X hp h
  have h2 : (match Nat.beq pc 4 with | true => (if X = "java/lang/IndexOutOfBoundsException" then some 12 else none) | false => none : Option Nat) = some hp := h
  clear h
  split at h2
  · rename_i e
    have e := Nat.eq_of_beq_eq_true e
    subst e
    by_cases e0 : X = "java/lang/IndexOutOfBoundsException"
    · subst e0
      rw [if_pos rfl] at h2
      cases h2
      exact ⟨[], ⟨0, 9, 12, 21⟩, [], rfl, fun _ h => absurd h List.not_mem_nil, by decide, by decide, rfl, "java/lang/IndexOutOfBoundsException", zk_wi 545 (by decide +kernel) rfl, zk_tb 556 (by decide +kernel)⟩
    rw [if_neg e0] at h2
    cases h2
  · cases h2
theorem ct_L_mostPeople {l : Launch} (hl : l.stackTraces = false) (E : zk_E) : zk_CH l E (zk_VT E) yL_mostPeople cL_mostPeople 4 (some (.int)) hh_L_mostPeople rm_L_mostPeople (sp_L_mostPeople E) := by
  refine zk_methH (M := M_L_mostPeople) (C := C_L_mostPeople E) (by decide +kernel) rfl HO_L_mostPeople (zk_VT_ok E) MO_L_mostPeople TO_L_mostPeople (fun _ => rfl) ?_ (vc_L_mostPeople E)
  exact fun p e s m args below meth c X pc n mc ms sp2 h => by
    have h2 := zk_lka_mem h
    simp only [List.mem_cons, List.not_mem_nil, or_false, Prod.mk.injEq] at h2
    rcases h2 with ⟨rfl, rfl, rfl, rfl, rfl⟩
    exact zk_coV (idx := 110) X (ct_X10_mostPeople hl E) (List.forall_mem_cons.mpr ⟨zk_wi 971 (by decide +kernel) rfl, List.forall_mem_cons.mpr ⟨zk_wi 972 (by decide +kernel) rfl, List.forall_mem_cons.mpr ⟨zk_wi 973 (by decide +kernel) rfl, List.forall_mem_cons.mpr ⟨zk_wi 1 (by decide +kernel) rfl, List.forall_mem_cons.mpr ⟨zk_wi 974 (by decide +kernel) rfl, fun _ h => absurd h List.not_mem_nil⟩⟩⟩⟩⟩) (fun ci h => by
      have h := Nat.eq_of_beq_eq_true h
      subst h
      exact ⟨_, _, rfl⟩) (by decide +kernel) ⟨by decide, by decide, by decide +kernel⟩ ⟨by decide, by decide⟩

