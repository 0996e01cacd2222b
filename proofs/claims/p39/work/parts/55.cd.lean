/-! the class: what a plan tells of its objects -/
def fO (O : zk_Hp) (x : Option Nat) : Option va_E := match x with
  | some p => O p
  | none => none
def isT (o : Option va_E) : Prop := ∃ f t mx my ln fw sh rest, o = some (cX 6 f t mx my ln fw sh rest)
/-- the objects are of their kinds -/
def XOK (E : zk_E) (Q : Nat → Nat → Option Nat) (O : zk_Hp) : Prop := ∀ i, i < 50 → ∀ a, xat Q i = some a → E.1 + 28 ≤ a ∧ isX (O a)
def ROK (E : zk_E) (Q : Nat → Nat → Option Nat) (O : zk_Hp) : Prop := ∀ r, r < 20 → ∀ a, Q 2 r = some a → E.1 + 28 ≤ a ∧ isR (O a)
def DOK (E : zk_E) (Q : Nat → Nat → Option Nat) (O : zk_Hp) : Prop := ∀ d, d < 40 → ∀ a, Q 3 d = some a → E.1 + 28 ≤ a ∧ ∃ f t mx my ln fw sh p, O a = some (cX 1 f t mx my ln fw sh [.ref p]) ∧ E.1 + 28 ≤ p ∧ isP (O p)
def WOK (E : zk_E) (Q : Nat → Nat → Option Nat) (O : zk_Hp) : Prop := ∀ k, k < 40 → ∀ a, Q 4 k = some a → False
theorem n_isIn49 {i : Nat} (h : i < 50) : m_isIn (nI i) 0 49 = true := by
  have := m_isIn_nI (n := 50) (by decide) h
  rwa [show nI 50 - 1 = 49 by decide] at this
theorem nx {x : Option Nat} (h : x = none) : x.isSome = false := by rw [h]; rfl
theorem cntB_succ (p : Nat → Bool) (n : Nat) : cntB p (n + 1) = cntB p n + if p n = true then 1 else 0 := rfl
def x_is (Q : Nat → Nat → Option Nat) (f i : Nat) : Bool := (xat Q (f + i)).isSome
def sp_X5_countExits (E : zk_E) : zk_Sp zk_S := fun av σ sz P PX => match av with
  | [.ref a, .int f, .int e] => a = zk_ad E 1 ∧ (∃ k n, k + n ≤ 50 ∧ f = nI k ∧ e = nI (k + n) ∧ P (some (.int (nI (cntB (x_is σ.2.2.1 k) n)))) σ sz)
  | _ => False
theorem spe_X5_countExits (E : zk_E) (a : Nat) (f : Int32) (e : Int32) (σ : zk_S) (sz : Nat) (P : zk_P zk_S) (PX : zk_X zk_S) : sp_X5_countExits E [.ref a, .int f, .int e] σ sz P PX = (a = zk_ad E 1 ∧ (∃ k n, k + n ≤ 50 ∧ f = nI k ∧ e = nI (k + n) ∧ P (some (.int (nI (cntB (x_is σ.2.2.1 k) n)))) σ sz)) := propext Iff.rfl
def C_X5_countExits (E : zk_E) : zk_Cl zk_S := zk_lka [(14, 2, 0, 0, zk_rv (zk_VT E) (fun ci => Nat.beq ci 4) (sp_X5_exitAt E))]
theorem r_X5_countExits (E : zk_E) (P : zk_P zk_S) (PX : zk_X zk_S) (K : Nat → zk_L → List Value → zk_W zk_S → Prop) : (∀ (n : Nat) (l0 l1 l2 l3 l4 : Option Value)  (r : List Value) (σ : zk_S) (sz k c : Nat), zk_run E (zk_VT E) M_X5_countExits (C_X5_countExits E) P PX K (n + 1) 0 [l0, l1, l2, l3, l4] r (σ, sz, k, c) = zk_run E (zk_VT E) M_X5_countExits (C_X5_countExits E) P PX K n 1 [l0, l1, l2, l3, l4] (.int (0) :: r) (σ, sz, k, c)) ∧
  (∀ (n : Nat) (l0 l1 l2 l3 l4 : Option Value) (x : Int32) (r : List Value) (σ : zk_S) (sz k c : Nat), zk_run E (zk_VT E) M_X5_countExits (C_X5_countExits E) P PX K (n + 1) 1 [l0, l1, l2, l3, l4] (.int x :: r) (σ, sz, k, c) = zk_run E (zk_VT E) M_X5_countExits (C_X5_countExits E) P PX K n 2 [l0, l1, zk_kl l2, some (.int x), l4] r (σ, sz, k, c)) ∧
  (∀ (n : Nat) (l0 l2 l3 l4 : Option Value) (y1 : Int32) (r : List Value) (σ : zk_S) (sz k c : Nat), zk_run E (zk_VT E) M_X5_countExits (C_X5_countExits E) P PX K (n + 1) 2 [l0, some (.int y1), l2, l3, l4] r (σ, sz, k, c) = zk_run E (zk_VT E) M_X5_countExits (C_X5_countExits E) P PX K n 3 [l0, some (.int y1), l2, l3, l4] (.int y1 :: r) (σ, sz, k, c)) ∧
  (∀ (n : Nat) (l0 l1 l2 l3 l4 : Option Value) (x : Int32) (r : List Value) (σ : zk_S) (sz k c : Nat), zk_run E (zk_VT E) M_X5_countExits (C_X5_countExits E) P PX K (n + 1) 3 [l0, l1, l2, l3, l4] (.int x :: r) (σ, sz, k, c) = zk_run E (zk_VT E) M_X5_countExits (C_X5_countExits E) P PX K n 5 [l0, l1, l2, zk_kl l3, some (.int x)] r (σ, sz, k, c)) ∧
  (∀ (n : Nat) (l0 l1 l2 l3 l4 : Option Value)  (r : List Value) (σ : zk_S) (sz k c : Nat), zk_run E (zk_VT E) M_X5_countExits (C_X5_countExits E) P PX K (n + 1) 5 [l0, l1, l2, l3, l4] r (σ, sz, k, c) = K 5 [l0, l1, l2, l3, l4] r (σ, sz, k, c)) ∧
  (∀ (n : Nat) (l0 l1 l3 l4 : Option Value) (y2 : Int32) (r : List Value) (σ : zk_S) (sz k c : Nat), zk_run E (zk_VT E) M_X5_countExits (C_X5_countExits E) P PX K (n + 1) 7 [l0, l1, some (.int y2), l3, l4] r (σ, sz, k, c) = zk_run E (zk_VT E) M_X5_countExits (C_X5_countExits E) P PX K n 8 [l0, l1, some (.int y2), l3, l4] (.int y2 :: r) (σ, sz, k, c)) ∧
  (∀ (n : Nat) (l0 l1 l2 l3 l4 : Option Value) (x y : Int32) (r : List Value) (σ : zk_S) (sz k c : Nat), zk_run E (zk_VT E) M_X5_countExits (C_X5_countExits E) P PX K (n + 1) 8 [l0, l1, l2, l3, l4] (.int y :: .int x :: r) (σ, sz, k, c) = ((y ≤ x → zk_run E (zk_VT E) M_X5_countExits (C_X5_countExits E) P PX K n 29 [l0, l1, l2, l3, l4] r (σ, sz, k, c)) ∧ (¬ (y ≤ x) → zk_run E (zk_VT E) M_X5_countExits (C_X5_countExits E) P PX K n 11 [l0, l1, l2, l3, l4] r (σ, sz, k, c)))) ∧
  (∀ (n : Nat) (l1 l2 l3 l4 : Option Value) (y0 : Value) (r : List Value) (σ : zk_S) (sz k c : Nat), zk_run E (zk_VT E) M_X5_countExits (C_X5_countExits E) P PX K (n + 1) 11 [some y0, l1, l2, l3, l4] r (σ, sz, k, c) = (zk_isr y0 ∧ zk_run E (zk_VT E) M_X5_countExits (C_X5_countExits E) P PX K n 12 [some y0, l1, l2, l3, l4] (y0 :: r) (σ, sz, k, c))) ∧
  (∀ (n : Nat) (l0 l1 l2 l3 : Option Value) (y4 : Int32) (r : List Value) (σ : zk_S) (sz k c : Nat), zk_run E (zk_VT E) M_X5_countExits (C_X5_countExits E) P PX K (n + 1) 12 [l0, l1, l2, l3, some (.int y4)] r (σ, sz, k, c) = zk_run E (zk_VT E) M_X5_countExits (C_X5_countExits E) P PX K n 14 [l0, l1, l2, l3, some (.int y4)] (.int y4 :: r) (σ, sz, k, c)) ∧
  (∀ (n : Nat) (l0 l1 l2 l3 l4 : Option Value) (v0 : Value) (v1 : Value)  (σ : zk_S) (sz k c : Nat), zk_run E (zk_VT E) M_X5_countExits (C_X5_countExits E) P PX K (n + 1) 14 [l0, l1, l2, l3, l4] [v0, v1] (σ, sz, k, c) = (k + 0 ≤ 0 ∧ c + 0 ≤ 0 ∧ (zk_rv (zk_VT E) (fun ci => Nat.beq ci 4) (sp_X5_exitAt E)) [v1, v0] σ sz (fun v s2 z2 => zk_run E (zk_VT E) M_X5_countExits (C_X5_countExits E) P PX K n 17 [l0, l1, l2, l3, l4] (zk_psh v []) (s2, z2, k + 0, c + 0)) (fun X s2 z2 => PX X s2 z2))) ∧
  (∀ (n : Nat) (l0 l1 l2 l3 l4 : Option Value) (v : Value) (r : List Value) (σ : zk_S) (sz k c : Nat), zk_run E (zk_VT E) M_X5_countExits (C_X5_countExits E) P PX K (n + 1) 17 [l0, l1, l2, l3, l4] (v :: r) (σ, sz, k, c) = (zk_isr v ∧ (v = .null → zk_run E (zk_VT E) M_X5_countExits (C_X5_countExits E) P PX K n 23 [l0, l1, l2, l3, l4] r (σ, sz, k, c)) ∧ (¬ (v = .null) → zk_run E (zk_VT E) M_X5_countExits (C_X5_countExits E) P PX K n 20 [l0, l1, l2, l3, l4] r (σ, sz, k, c)))) ∧
  (∀ (n : Nat) (l0 l1 l2 l4 : Option Value) (y3 : Int32) (r : List Value) (σ : zk_S) (sz k c : Nat), zk_run E (zk_VT E) M_X5_countExits (C_X5_countExits E) P PX K (n + 1) 20 [l0, l1, l2, some (.int y3), l4] r (σ, sz, k, c) = zk_run E (zk_VT E) M_X5_countExits (C_X5_countExits E) P PX K n 23 [l0, l1, zk_kl l2, some (.int (y3 + 1)), l4] r (σ, sz, k, c)) ∧
  (∀ (n : Nat) (l0 l1 l2 l3 : Option Value) (y4 : Int32) (r : List Value) (σ : zk_S) (sz k c : Nat), zk_run E (zk_VT E) M_X5_countExits (C_X5_countExits E) P PX K (n + 1) 23 [l0, l1, l2, l3, some (.int y4)] r (σ, sz, k, c) = zk_run E (zk_VT E) M_X5_countExits (C_X5_countExits E) P PX K n 26 [l0, l1, l2, zk_kl l3, some (.int (y4 + 1))] r (σ, sz, k, c)) ∧
  (∀ (n : Nat) (l0 l1 l2 l3 l4 : Option Value)  (r : List Value) (σ : zk_S) (sz k c : Nat), zk_run E (zk_VT E) M_X5_countExits (C_X5_countExits E) P PX K (n + 1) 26 [l0, l1, l2, l3, l4] r (σ, sz, k, c) = zk_run E (zk_VT E) M_X5_countExits (C_X5_countExits E) P PX K n 5 [l0, l1, l2, l3, l4] r (σ, sz, k, c)) ∧
  (∀ (n : Nat) (l0 l1 l2 l4 : Option Value) (y3 : Int32) (r : List Value) (σ : zk_S) (sz k c : Nat), zk_run E (zk_VT E) M_X5_countExits (C_X5_countExits E) P PX K (n + 1) 29 [l0, l1, l2, some (.int y3), l4] r (σ, sz, k, c) = zk_run E (zk_VT E) M_X5_countExits (C_X5_countExits E) P PX K n 30 [l0, l1, l2, some (.int y3), l4] (.int y3 :: r) (σ, sz, k, c)) ∧
  (∀ (n : Nat) (l0 l1 l2 l3 l4 : Option Value) (x : Int32)  (σ : zk_S) (sz k c : Nat), zk_run E (zk_VT E) M_X5_countExits (C_X5_countExits E) P PX K (n + 1) 30 [l0, l1, l2, l3, l4] [.int x] (σ, sz, k, c) = (zk_nok (some (.int)) x ∧ P (some (.int x)) σ sz ∧ k ≤ 0 ∧ c ≤ 0)) ∧
  (∀ (n : Nat) (l0 l1 l2 l3 l4 : Option Value) (r : List Value) (w : zk_W zk_S), zk_go E (zk_VT E) M_X5_countExits (C_X5_countExits E) P PX K n 0 [l0, l1, l2, l3, l4] r w = zk_run E (zk_VT E) M_X5_countExits (C_X5_countExits E) P PX K (n + 1) 0 [l0, l1, l2, l3, l4] r w) ∧
  (∀ (n : Nat) (l0 l1 l2 l3 : Option Value) (y4 : Int32) (r : List Value) (σ : zk_S) (sz k c : Nat), zk_go E (zk_VT E) M_X5_countExits (C_X5_countExits E) P PX K n 5 [l0, l1, l2, l3, some (.int y4)] r (σ, sz, k, c) = zk_run E (zk_VT E) M_X5_countExits (C_X5_countExits E) P PX K n 7 [l0, l1, l2, l3, some (.int y4)] (.int y4 :: r) (σ, sz, k, c)) := ⟨by intros; rfl, by intros; rfl, by intros; rfl, by intros; rfl, by intros; rfl, by intros; rfl, by intros; rfl, by intros; rfl, by intros; rfl, by intros; rfl, by intros; rfl, by intros; rfl, by intros; rfl, by intros; rfl, by intros; rfl, by intros; rfl, by intros; rfl, by intros; rfl⟩
theorem vc_X5_countExits (E : zk_E) : zk_VC E (zk_VT E) M_X5_countExits (C_X5_countExits E) 5 (sp_X5_countExits E) := by
  intro av σ sz P PX h
  obtain ⟨J, N, Q, O, U⟩ := σ
  unfold sp_X5_countExits at h
  split at h
  case h_2 => exact h.elim
  rename_i a0 f e
  obtain ⟨rfl, h⟩ := h
  refine ⟨Nat.le_of_ble_eq_true rfl, fun G hG => ?_⟩
  change G 0 [some (.ref (zk_ad E 1)), some (.int f), some (.int e), none, none] [] ((J, N, Q, O, U), sz, 0, 0)
  try dsimp only at h
  obtain ⟨k, n, hkn, rfl, rfl, h⟩ := h
  have loop : ∀ m i, i + m = n → G 5 [some (.ref (zk_ad E 1)), some (.int (nI k)), some (.int (nI (k + n))), some (.int (nI (cntB (x_is Q k) i))), some (.int (nI (k + i)))] [] ((J, N, Q, O, U), sz, 0, 0) := by
    intro m
    induction m with
    | zero =>
      intro i hi
      have c1 : nI (k + n) ≤ nI (k + i) := nI_le (by omega) (by omega)
      have ei : i = n := by omega
      subst ei
      (refine hG 900 _ _ _ _ ?_; simp only [r_X5_countExits, c1])
      exact h
    | succ m ih =>
      intro i hi
      have c1 : ¬ nI (k + n) ≤ nI (k + i) := nI_ge (by omega) (by omega)
      have ih2 := ih (i + 1) (by omega)
      rw [cntB_succ, ← Nat.add_assoc] at ih2
      have hin := n_isIn49 (i := k + i) (by omega)
      have hcl : (nI (k + i)).toNatClampNeg = k + i := n_cl (by omega)
      cases q : xat Q (k + i) with
      | none =>
        rw [if_neg (by unfold x_is; rw [q]; decide), Nat.add_zero] at ih2
        (refine hG 900 _ _ _ _ ?_; simp only [r_X5_countExits, c1, spe_X5_exitAt, hin, hcl, q, va_rf_n, Bool.true_eq_false, n_succ])
        exact ih2
      | some b =>
        rw [if_pos (by unfold x_is; rw [q]; rfl)] at ih2
        (refine hG 900 _ _ _ _ ?_; simp only [r_X5_countExits, c1, spe_X5_exitAt, hin, hcl, q, va_rf_s, Bool.true_eq_false, n_succ])
        exact ih2
  have l0 := loop n 0 (by omega)
  rw [Nat.add_zero] at l0
  (refine hG 900 _ _ _ _ ?_; simp only [r_X5_countExits])
  exact l0
theorem ct_X5_countExits {l : Launch} (hl : l.stackTraces = false) (E : zk_E) : zk_C l E (zk_VT E) yX5_countExits cX5_countExits 5 (some (.int)) rm_X5_countExits (sp_X5_countExits E) := by
  refine zk_meth (M := M_X5_countExits) (C := C_X5_countExits E) hl (by decide +kernel) rfl (fun _ _ => rfl) (zk_VT_ok E) MO_X5_countExits TO_X5_countExits THo_X5_countExits ?_ (vc_X5_countExits E)
  exact fun p e s m args below meth c X pc n mc ms sp2 h => by
    have h2 := zk_lka_mem h
    simp only [List.mem_cons, List.not_mem_nil, or_false, Prod.mk.injEq] at h2
    rcases h2 with ⟨rfl, rfl, rfl, rfl, rfl⟩
    exact zk_coV (idx := 47) X (ct_X5_exitAt hl E) (List.forall_mem_cons.mpr ⟨zk_wi 208 (by decide +kernel) rfl, List.forall_mem_cons.mpr ⟨zk_wi 119 (by decide +kernel) rfl, List.forall_mem_cons.mpr ⟨zk_wi 120 (by decide +kernel) rfl, List.forall_mem_cons.mpr ⟨zk_wi 3 (by decide +kernel) rfl, List.forall_mem_cons.mpr ⟨zk_wi 121 (by decide +kernel) rfl, fun _ h => absurd h List.not_mem_nil⟩⟩⟩⟩⟩) (fun ci h => by
      have h := Nat.eq_of_beq_eq_true h
      subst h
      exact ⟨_, _, rfl⟩) (by decide +kernel) ⟨by decide, by decide, by decide +kernel⟩ ⟨by decide, by decide⟩
def x_opn (Q : Nat → Nat → Option Nat) (O : zk_Hp) (b i : Nat) : Bool := match xat Q i with
  | some a => decide (fI (O a) 6 = 0) && x_of (O a) b
  | none => false
def sp_X5_countOpen (E : zk_E) : zk_Sp zk_S := fun av σ sz P PX => match av with
  | [.ref a, .ref b] => a = zk_ad E 1 ∧ XOK E σ.2.2.1 σ.2.2.2.1 ∧ P (some (.int (nI (cntB (x_opn σ.2.2.1 σ.2.2.2.1 b) 50)))) σ sz
  | _ => False
theorem spe_X5_countOpen (E : zk_E) (a : Nat) (b : Nat) (σ : zk_S) (sz : Nat) (P : zk_P zk_S) (PX : zk_X zk_S) : sp_X5_countOpen E [.ref a, .ref b] σ sz P PX = (a = zk_ad E 1 ∧ XOK E σ.2.2.1 σ.2.2.2.1 ∧ P (some (.int (nI (cntB (x_opn σ.2.2.1 σ.2.2.2.1 b) 50)))) σ sz) := propext Iff.rfl
def C_X5_countOpen (E : zk_E) : zk_Cl zk_S := zk_lka [(12, 2, 0, 0, zk_rv (zk_VT E) (fun ci => Nat.beq ci 4) (sp_X5_exitAt E)), (33, 2, 0, 0, zk_rv (zk_VT E) (fun ci => Nat.beq ci 1 || Nat.beq ci 6) (sp_X2_isOf E))]
theorem r_X5_countOpen (E : zk_E) (P : zk_P zk_S) (PX : zk_X zk_S) (K : Nat → zk_L → List Value → zk_W zk_S → Prop) : (∀ (n : Nat) (l0 l1 l2 l3 l4 : Option Value)  (r : List Value) (σ : zk_S) (sz k c : Nat), zk_run E (zk_VT E) M_X5_countOpen (C_X5_countOpen E) P PX K (n + 1) 0 [l0, l1, l2, l3, l4] r (σ, sz, k, c) = zk_run E (zk_VT E) M_X5_countOpen (C_X5_countOpen E) P PX K n 1 [l0, l1, l2, l3, l4] (.int (0) :: r) (σ, sz, k, c)) ∧
  (∀ (n : Nat) (l0 l1 l2 l3 l4 : Option Value) (x : Int32) (r : List Value) (σ : zk_S) (sz k c : Nat), zk_run E (zk_VT E) M_X5_countOpen (C_X5_countOpen E) P PX K (n + 1) 1 [l0, l1, l2, l3, l4] (.int x :: r) (σ, sz, k, c) = zk_run E (zk_VT E) M_X5_countOpen (C_X5_countOpen E) P PX K n 2 [l0, zk_kl l1, some (.int x), l3, l4] r (σ, sz, k, c)) ∧
  (∀ (n : Nat) (l0 l1 l2 l3 l4 : Option Value)  (r : List Value) (σ : zk_S) (sz k c : Nat), zk_run E (zk_VT E) M_X5_countOpen (C_X5_countOpen E) P PX K (n + 1) 2 [l0, l1, l2, l3, l4] r (σ, sz, k, c) = zk_run E (zk_VT E) M_X5_countOpen (C_X5_countOpen E) P PX K n 3 [l0, l1, l2, l3, l4] (.int (0) :: r) (σ, sz, k, c)) ∧
  (∀ (n : Nat) (l0 l1 l2 l3 l4 : Option Value) (x : Int32) (r : List Value) (σ : zk_S) (sz k c : Nat), zk_run E (zk_VT E) M_X5_countOpen (C_X5_countOpen E) P PX K (n + 1) 3 [l0, l1, l2, l3, l4] (.int x :: r) (σ, sz, k, c) = zk_run E (zk_VT E) M_X5_countOpen (C_X5_countOpen E) P PX K n 4 [l0, l1, zk_kl l2, some (.int x), l4] r (σ, sz, k, c)) ∧
  (∀ (n : Nat) (l0 l1 l2 l3 l4 : Option Value)  (r : List Value) (σ : zk_S) (sz k c : Nat), zk_run E (zk_VT E) M_X5_countOpen (C_X5_countOpen E) P PX K (n + 1) 4 [l0, l1, l2, l3, l4] r (σ, sz, k, c) = K 4 [l0, l1, l2, l3, l4] r (σ, sz, k, c)) ∧
  (∀ (n : Nat) (l0 l1 l2 l3 l4 : Option Value)  (r : List Value) (σ : zk_S) (sz k c : Nat), zk_run E (zk_VT E) M_X5_countOpen (C_X5_countOpen E) P PX K (n + 1) 5 [l0, l1, l2, l3, l4] r (σ, sz, k, c) = zk_run E (zk_VT E) M_X5_countOpen (C_X5_countOpen E) P PX K n 7 [l0, l1, l2, l3, l4] (.int (50) :: r) (σ, sz, k, c)) ∧
  (∀ (n : Nat) (l0 l1 l2 l3 l4 : Option Value) (x y : Int32) (r : List Value) (σ : zk_S) (sz k c : Nat), zk_run E (zk_VT E) M_X5_countOpen (C_X5_countOpen E) P PX K (n + 1) 7 [l0, l1, l2, l3, l4] (.int y :: .int x :: r) (σ, sz, k, c) = ((y ≤ x → zk_run E (zk_VT E) M_X5_countOpen (C_X5_countOpen E) P PX K n 48 [l0, l1, l2, l3, l4] r (σ, sz, k, c)) ∧ (¬ (y ≤ x) → zk_run E (zk_VT E) M_X5_countOpen (C_X5_countOpen E) P PX K n 10 [l0, l1, l2, l3, l4] r (σ, sz, k, c)))) ∧
  (∀ (n : Nat) (l1 l2 l3 l4 : Option Value) (y0 : Value) (r : List Value) (σ : zk_S) (sz k c : Nat), zk_run E (zk_VT E) M_X5_countOpen (C_X5_countOpen E) P PX K (n + 1) 10 [some y0, l1, l2, l3, l4] r (σ, sz, k, c) = (zk_isr y0 ∧ zk_run E (zk_VT E) M_X5_countOpen (C_X5_countOpen E) P PX K n 11 [some y0, l1, l2, l3, l4] (y0 :: r) (σ, sz, k, c))) ∧
  (∀ (n : Nat) (l0 l1 l2 l4 : Option Value) (y3 : Int32) (r : List Value) (σ : zk_S) (sz k c : Nat), zk_run E (zk_VT E) M_X5_countOpen (C_X5_countOpen E) P PX K (n + 1) 11 [l0, l1, l2, some (.int y3), l4] r (σ, sz, k, c) = zk_run E (zk_VT E) M_X5_countOpen (C_X5_countOpen E) P PX K n 12 [l0, l1, l2, some (.int y3), l4] (.int y3 :: r) (σ, sz, k, c)) ∧
  (∀ (n : Nat) (l0 l1 l2 l3 l4 : Option Value) (v0 : Value) (v1 : Value)  (σ : zk_S) (sz k c : Nat), zk_run E (zk_VT E) M_X5_countOpen (C_X5_countOpen E) P PX K (n + 1) 12 [l0, l1, l2, l3, l4] [v0, v1] (σ, sz, k, c) = (k + 0 ≤ 0 ∧ c + 0 ≤ 0 ∧ (zk_rv (zk_VT E) (fun ci => Nat.beq ci 4) (sp_X5_exitAt E)) [v1, v0] σ sz (fun v s2 z2 => zk_run E (zk_VT E) M_X5_countOpen (C_X5_countOpen E) P PX K n 15 [l0, l1, l2, l3, l4] (zk_psh v []) (s2, z2, k + 0, c + 0)) (fun X s2 z2 => PX X s2 z2))) ∧
  (∀ (n : Nat) (l0 l1 l2 l3 l4 : Option Value) (x : Value) (r : List Value) (σ : zk_S) (sz k c : Nat), zk_run E (zk_VT E) M_X5_countOpen (C_X5_countOpen E) P PX K (n + 1) 15 [l0, l1, l2, l3, l4] (x :: r) (σ, sz, k, c) = (zk_isr x ∧ zk_run E (zk_VT E) M_X5_countOpen (C_X5_countOpen E) P PX K n 17 [l0, l1, l2, zk_kl l3, some (x)] r (σ, sz, k, c))) ∧
  (∀ (n : Nat) (l0 l1 l2 l3 : Option Value) (y4 : Value) (r : List Value) (σ : zk_S) (sz k c : Nat), zk_run E (zk_VT E) M_X5_countOpen (C_X5_countOpen E) P PX K (n + 1) 17 [l0, l1, l2, l3, some y4] r (σ, sz, k, c) = (zk_isr y4 ∧ zk_run E (zk_VT E) M_X5_countOpen (C_X5_countOpen E) P PX K n 19 [l0, l1, l2, l3, some y4] (y4 :: r) (σ, sz, k, c))) ∧
  (∀ (n : Nat) (l0 l1 l2 l3 l4 : Option Value) (v : Value) (r : List Value) (σ : zk_S) (sz k c : Nat), zk_run E (zk_VT E) M_X5_countOpen (C_X5_countOpen E) P PX K (n + 1) 19 [l0, l1, l2, l3, l4] (v :: r) (σ, sz, k, c) = (zk_isr v ∧ (v = .null → zk_run E (zk_VT E) M_X5_countOpen (C_X5_countOpen E) P PX K n 42 [l0, l1, l2, l3, l4] r (σ, sz, k, c)) ∧ (¬ (v = .null) → zk_run E (zk_VT E) M_X5_countOpen (C_X5_countOpen E) P PX K n 22 [l0, l1, l2, l3, l4] r (σ, sz, k, c)))) ∧
  (∀ (n : Nat) (l0 l1 l2 l3 : Option Value) (y4 : Value) (r : List Value) (σ : zk_S) (sz k c : Nat), zk_run E (zk_VT E) M_X5_countOpen (C_X5_countOpen E) P PX K (n + 1) 22 [l0, l1, l2, l3, some y4] r (σ, sz, k, c) = (zk_isr y4 ∧ zk_run E (zk_VT E) M_X5_countOpen (C_X5_countOpen E) P PX K n 24 [l0, l1, l2, l3, some y4] (y4 :: r) (σ, sz, k, c))) ∧
  (∀ (n : Nat) (l0 l1 l2 l3 l4 : Option Value) (a : Nat) (r : List Value) (σ : zk_S) (sz k c : Nat), zk_run E (zk_VT E) M_X5_countOpen (C_X5_countOpen E) P PX K (n + 1) 24 [l0, l1, l2, l3, l4] (.ref a :: r) (σ, sz, k, c) = zk_fld (zk_view E σ a) [1, 6] 6 (fun v => zk_run E (zk_VT E) M_X5_countOpen (C_X5_countOpen E) P PX K n 27 [l0, l1, l2, l3, l4] (v :: r) (σ, sz, k, c))) ∧
  (∀ (n : Nat) (l0 l1 l2 l3 l4 : Option Value) (x : Int32) (r : List Value) (σ : zk_S) (sz k c : Nat), zk_run E (zk_VT E) M_X5_countOpen (C_X5_countOpen E) P PX K (n + 1) 27 [l0, l1, l2, l3, l4] (.int x :: r) (σ, sz, k, c) = ((¬ x = 0 → zk_run E (zk_VT E) M_X5_countOpen (C_X5_countOpen E) P PX K n 42 [l0, l1, l2, l3, l4] r (σ, sz, k, c)) ∧ (¬ (¬ x = 0) → zk_run E (zk_VT E) M_X5_countOpen (C_X5_countOpen E) P PX K n 30 [l0, l1, l2, l3, l4] r (σ, sz, k, c)))) ∧
  (∀ (n : Nat) (l0 l1 l2 l3 : Option Value) (y4 : Value) (r : List Value) (σ : zk_S) (sz k c : Nat), zk_run E (zk_VT E) M_X5_countOpen (C_X5_countOpen E) P PX K (n + 1) 30 [l0, l1, l2, l3, some y4] r (σ, sz, k, c) = (zk_isr y4 ∧ zk_run E (zk_VT E) M_X5_countOpen (C_X5_countOpen E) P PX K n 32 [l0, l1, l2, l3, some y4] (y4 :: r) (σ, sz, k, c))) ∧
  (∀ (n : Nat) (l0 l2 l3 l4 : Option Value) (y1 : Value) (r : List Value) (σ : zk_S) (sz k c : Nat), zk_run E (zk_VT E) M_X5_countOpen (C_X5_countOpen E) P PX K (n + 1) 32 [l0, some y1, l2, l3, l4] r (σ, sz, k, c) = (zk_isr y1 ∧ zk_run E (zk_VT E) M_X5_countOpen (C_X5_countOpen E) P PX K n 33 [l0, some y1, l2, l3, l4] (y1 :: r) (σ, sz, k, c))) ∧
  (∀ (n : Nat) (l0 l1 l2 l3 l4 : Option Value) (v0 : Value) (v1 : Value)  (σ : zk_S) (sz k c : Nat), zk_run E (zk_VT E) M_X5_countOpen (C_X5_countOpen E) P PX K (n + 1) 33 [l0, l1, l2, l3, l4] [v0, v1] (σ, sz, k, c) = (k + 0 ≤ 0 ∧ c + 0 ≤ 0 ∧ (zk_rv (zk_VT E) (fun ci => Nat.beq ci 1 || Nat.beq ci 6) (sp_X2_isOf E)) [v1, v0] σ sz (fun v s2 z2 => zk_run E (zk_VT E) M_X5_countOpen (C_X5_countOpen E) P PX K n 36 [l0, l1, l2, l3, l4] (zk_psh v []) (s2, z2, k + 0, c + 0)) (fun X s2 z2 => PX X s2 z2))) ∧
  (∀ (n : Nat) (l0 l1 l2 l3 l4 : Option Value) (x : Int32) (r : List Value) (σ : zk_S) (sz k c : Nat), zk_run E (zk_VT E) M_X5_countOpen (C_X5_countOpen E) P PX K (n + 1) 36 [l0, l1, l2, l3, l4] (.int x :: r) (σ, sz, k, c) = ((x = 0 → zk_run E (zk_VT E) M_X5_countOpen (C_X5_countOpen E) P PX K n 42 [l0, l1, l2, l3, l4] r (σ, sz, k, c)) ∧ (¬ (x = 0) → zk_run E (zk_VT E) M_X5_countOpen (C_X5_countOpen E) P PX K n 39 [l0, l1, l2, l3, l4] r (σ, sz, k, c)))) ∧
  (∀ (n : Nat) (l0 l1 l3 l4 : Option Value) (y2 : Int32) (r : List Value) (σ : zk_S) (sz k c : Nat), zk_run E (zk_VT E) M_X5_countOpen (C_X5_countOpen E) P PX K (n + 1) 39 [l0, l1, some (.int y2), l3, l4] r (σ, sz, k, c) = zk_run E (zk_VT E) M_X5_countOpen (C_X5_countOpen E) P PX K n 42 [l0, zk_kl l1, some (.int (y2 + 1)), l3, l4] r (σ, sz, k, c)) ∧
  (∀ (n : Nat) (l0 l1 l2 l4 : Option Value) (y3 : Int32) (r : List Value) (σ : zk_S) (sz k c : Nat), zk_run E (zk_VT E) M_X5_countOpen (C_X5_countOpen E) P PX K (n + 1) 42 [l0, l1, l2, some (.int y3), l4] r (σ, sz, k, c) = zk_run E (zk_VT E) M_X5_countOpen (C_X5_countOpen E) P PX K n 45 [l0, l1, zk_kl l2, some (.int (y3 + 1)), l4] r (σ, sz, k, c)) ∧
  (∀ (n : Nat) (l0 l1 l2 l3 l4 : Option Value)  (r : List Value) (σ : zk_S) (sz k c : Nat), zk_run E (zk_VT E) M_X5_countOpen (C_X5_countOpen E) P PX K (n + 1) 45 [l0, l1, l2, l3, l4] r (σ, sz, k, c) = zk_run E (zk_VT E) M_X5_countOpen (C_X5_countOpen E) P PX K n 4 [l0, l1, l2, l3, l4] r (σ, sz, k, c)) ∧
  (∀ (n : Nat) (l0 l1 l3 l4 : Option Value) (y2 : Int32) (r : List Value) (σ : zk_S) (sz k c : Nat), zk_run E (zk_VT E) M_X5_countOpen (C_X5_countOpen E) P PX K (n + 1) 48 [l0, l1, some (.int y2), l3, l4] r (σ, sz, k, c) = zk_run E (zk_VT E) M_X5_countOpen (C_X5_countOpen E) P PX K n 49 [l0, l1, some (.int y2), l3, l4] (.int y2 :: r) (σ, sz, k, c)) ∧
  (∀ (n : Nat) (l0 l1 l2 l3 l4 : Option Value) (x : Int32)  (σ : zk_S) (sz k c : Nat), zk_run E (zk_VT E) M_X5_countOpen (C_X5_countOpen E) P PX K (n + 1) 49 [l0, l1, l2, l3, l4] [.int x] (σ, sz, k, c) = (zk_nok (some (.int)) x ∧ P (some (.int x)) σ sz ∧ k ≤ 0 ∧ c ≤ 0)) ∧
  (∀ (n : Nat) (l0 l1 l2 l3 l4 : Option Value) (r : List Value) (w : zk_W zk_S), zk_go E (zk_VT E) M_X5_countOpen (C_X5_countOpen E) P PX K n 0 [l0, l1, l2, l3, l4] r w = zk_run E (zk_VT E) M_X5_countOpen (C_X5_countOpen E) P PX K (n + 1) 0 [l0, l1, l2, l3, l4] r w) ∧
  (∀ (n : Nat) (l0 l1 l2 l4 : Option Value) (y3 : Int32) (r : List Value) (σ : zk_S) (sz k c : Nat), zk_go E (zk_VT E) M_X5_countOpen (C_X5_countOpen E) P PX K n 4 [l0, l1, l2, some (.int y3), l4] r (σ, sz, k, c) = zk_run E (zk_VT E) M_X5_countOpen (C_X5_countOpen E) P PX K n 5 [l0, l1, l2, some (.int y3), l4] (.int y3 :: r) (σ, sz, k, c)) := ⟨by intros; rfl, by intros; rfl, by intros; rfl, by intros; rfl, by intros; rfl, by intros; rfl, by intros; rfl, by intros; rfl, by intros; rfl, by intros; rfl, by intros; rfl, by intros; rfl, by intros; rfl, by intros; rfl, by intros; rfl, by intros; rfl, by intros; rfl, by intros; rfl, by intros; rfl, by intros; rfl, by intros; rfl, by intros; rfl, by intros; rfl, by intros; rfl, by intros; rfl, by intros; rfl, by intros; rfl⟩
theorem vc_X5_countOpen (E : zk_E) : zk_VC E (zk_VT E) M_X5_countOpen (C_X5_countOpen E) 5 (sp_X5_countOpen E) := by
  intro av σ sz P PX h
  obtain ⟨J, N, Q, O, U⟩ := σ
  unfold sp_X5_countOpen at h
  split at h
  case h_2 => exact h.elim
  rename_i a0 b
  obtain ⟨rfl, h⟩ := h
  refine ⟨Nat.le_of_ble_eq_true rfl, fun G hG => ?_⟩
  change G 0 [some (.ref (zk_ad E 1)), some (.ref b), none, none, none] [] ((J, N, Q, O, U), sz, 0, 0)
  try dsimp only at h
  obtain ⟨hx, h⟩ := h
  have loop : ∀ m i l4, i + m = 50 → G 4 [some (.ref (zk_ad E 1)), some (.ref b), some (.int (nI (cntB (x_opn Q O b) i))), some (.int (nI i)), l4] [] ((J, N, Q, O, U), sz, 0, 0) := by
    intro m
    induction m with
    | zero =>
      intro i l4 hi
      have c1 : (50 : Int32) ≤ nI i := (nI_le (a := 50) (by omega) (by omega) : nI 50 ≤ nI i)
      have ei : i = 50 := by omega
      subst ei
      (refine hG 900 _ _ _ _ ?_; simp only [r_X5_countOpen, c1])
      exact h
    | succ m ih =>
      intro i l4 hi
      have c1 : ¬ (50 : Int32) ≤ nI i := (nI_ge (b := 50) (by omega) (by decide) : ¬ nI 50 ≤ nI i)
      have ih2 := fun l4 => ih (i + 1) l4 (by omega)
      rw [cntB_succ] at ih2
      have hin := n_isIn49 (i := i) (by omega)
      have hcl : (nI i).toNatClampNeg = i := n_cl (by omega)
      cases q : xat Q i with
      | none =>
        rw [if_neg (by unfold x_opn; rw [q]; simp), Nat.add_zero] at ih2
        (refine hG 900 _ _ _ _ ?_; simp only [r_X5_countOpen, c1, spe_X5_exitAt, hin, hcl, q, va_rf_n, Bool.true_eq_false, n_succ])
        exact ih2 _
      | some c =>
        obtain ⟨hc, hX⟩ := hx i (by omega) c q
        have ex : x_opn Q O b i = (decide (fI (O c) 6 = 0) && x_of (O c) b) := by unfold x_opn; rw [q]
        rw [ex] at ih2
        obtain ⟨ci, f, t, mx, my, ln, fw, sh, rest, hci, hO⟩ := id hX
        have fi6 : fI (O c) 6 = sh := by rw [hO]; rfl
        rw [fi6] at ih2
        have hif : ∀ k, zk_is (O c) k = (k ci = true) := fun k => by rw [hO]; rfl
        have gf : ∀ F : Value → Prop, zk_fld (O c) [1, 6] 6 F = F (.int sh) := fun F => by
          rw [hO]
          unfold cX
          rcases hci with rfl | rfl <;> simp [zk_fld_o, zk_nth]
        have kk : (Nat.beq ci 1 || Nat.beq ci 6) = true := by rcases hci with rfl | rfl <;> rfl
        by_cases e1 : sh = 0
        · rw [decide_eq_true e1, Bool.true_and] at ih2
          cases e2 : x_of (O c) b with
          | true =>
            rw [if_pos e2] at ih2
            (refine hG 900 _ _ _ _ ?_; simp only [r_X5_countOpen, c1, spe_X5_exitAt, hin, hcl, q, va_rf_s, Bool.true_eq_false, zk_vd hc, gf, e1, hif, kk, spe_X2_isOf, hc, hX, e2, zk_b0, n_succ])
            exact ih2 _
          | false =>
            rw [if_neg (by rw [e2]; decide), Nat.add_zero] at ih2
            (refine hG 900 _ _ _ _ ?_; simp only [r_X5_countOpen, c1, spe_X5_exitAt, hin, hcl, q, va_rf_s, Bool.true_eq_false, zk_vd hc, gf, e1, hif, kk, spe_X2_isOf, hc, hX, e2, zk_b0, n_succ])
            exact ih2 _
        · rw [decide_eq_false e1, Bool.false_and, if_neg (by decide), Nat.add_zero] at ih2
          (refine hG 900 _ _ _ _ ?_; simp only [r_X5_countOpen, c1, spe_X5_exitAt, hin, hcl, q, va_rf_s, Bool.true_eq_false, zk_vd hc, gf, e1, n_succ])
          exact ih2 _
  have l0 := loop 50 0 none (by omega)
  (refine hG 900 _ _ _ _ ?_; simp only [r_X5_countOpen])
  exact l0
theorem ct_X5_countOpen {l : Launch} (hl : l.stackTraces = false) (E : zk_E) : zk_C l E (zk_VT E) yX5_countOpen cX5_countOpen 5 (some (.int)) rm_X5_countOpen (sp_X5_countOpen E) := by
  refine zk_meth (M := M_X5_countOpen) (C := C_X5_countOpen E) hl (by decide +kernel) rfl (fun _ _ => rfl) (zk_VT_ok E) MO_X5_countOpen TO_X5_countOpen THo_X5_countOpen ?_ (vc_X5_countOpen E)
  exact fun p e s m args below meth c X pc n mc ms sp2 h => by
    have h2 := zk_lka_mem h
    simp only [List.mem_cons, List.not_mem_nil, or_false, Prod.mk.injEq] at h2
    rcases h2 with ⟨rfl, rfl, rfl, rfl, rfl⟩ | ⟨rfl, rfl, rfl, rfl, rfl⟩
    · exact zk_coV (idx := 47) X (ct_X5_exitAt hl E) (List.forall_mem_cons.mpr ⟨zk_wi 208 (by decide +kernel) rfl, List.forall_mem_cons.mpr ⟨zk_wi 119 (by decide +kernel) rfl, List.forall_mem_cons.mpr ⟨zk_wi 120 (by decide +kernel) rfl, List.forall_mem_cons.mpr ⟨zk_wi 3 (by decide +kernel) rfl, List.forall_mem_cons.mpr ⟨zk_wi 121 (by decide +kernel) rfl, fun _ h => absurd h List.not_mem_nil⟩⟩⟩⟩⟩) (fun ci h => by
      have h := Nat.eq_of_beq_eq_true h
      subst h
      exact ⟨_, _, rfl⟩) (by decide +kernel) ⟨by decide, by decide, by decide +kernel⟩ ⟨by decide, by decide⟩
    · exact zk_coU (idx := 57) (x := ⟨"ClerestoryPlan$Exit", "isOf", "(LClerestoryPlan$Room;)Z"⟩) X (ct_X2_isOf hl E) (List.forall_mem_cons.mpr ⟨zk_wi 209 (by decide +kernel) rfl, List.forall_mem_cons.mpr ⟨zk_wi 211 (by decide +kernel) rfl, List.forall_mem_cons.mpr ⟨zk_wi 210 (by decide +kernel) rfl, List.forall_mem_cons.mpr ⟨zk_wi 16 (by decide +kernel) rfl, List.forall_mem_cons.mpr ⟨zk_wi 214 (by decide +kernel) rfl, fun _ h => absurd h List.not_mem_nil⟩⟩⟩⟩⟩) (fun ci h => by
      rw [Bool.or_eq_true] at h
      rcases h with h | h
      · have h := Nat.eq_of_beq_eq_true h
        subst h
        exact ⟨_, _, _, rfl, zk_wi 212 (by decide +kernel) rfl⟩
      · have h := Nat.eq_of_beq_eq_true h
        subst h
        exact ⟨_, _, _, rfl, zk_wi 213 (by decide +kernel) rfl⟩) rfl (by decide +kernel) ⟨by decide, by decide, by decide +kernel⟩ ⟨by decide, by decide⟩
def w_wide (Q : Nat → Nat → Option Nat) (O : zk_Hp) (b k : Nat) : Int32 := match Q 4 k with
  | some a => if fR (O a) 0 = some b then fI (fO O (fR (O a) 1)) 4 else 0
  | none => 0
def sp_X5_windowsWide (E : zk_E) : zk_Sp zk_S := fun av σ sz P PX => match av with
  | [.ref a, .ref b] => a = zk_ad E 1 ∧ WOK E σ.2.2.1 σ.2.2.2.1 ∧ P (some (.int (m_sum (w_wide σ.2.2.1 σ.2.2.2.1 b) 40))) σ sz
  | _ => False
theorem spe_X5_windowsWide (E : zk_E) (a : Nat) (b : Nat) (σ : zk_S) (sz : Nat) (P : zk_P zk_S) (PX : zk_X zk_S) : sp_X5_windowsWide E [.ref a, .ref b] σ sz P PX = (a = zk_ad E 1 ∧ WOK E σ.2.2.1 σ.2.2.2.1 ∧ P (some (.int (m_sum (w_wide σ.2.2.1 σ.2.2.2.1 b) 40))) σ sz) := propext Iff.rfl
def C_X5_windowsWide (E : zk_E) : zk_Cl zk_S := zk_lka []
theorem r_X5_windowsWide (E : zk_E) (P : zk_P zk_S) (PX : zk_X zk_S) (K : Nat → zk_L → List Value → zk_W zk_S → Prop) : (∀ (n : Nat) (l0 l1 l2 l3 l4 l5 l6 : Option Value)  (r : List Value) (σ : zk_S) (sz k c : Nat), zk_run E (zk_VT E) M_X5_windowsWide (C_X5_windowsWide E) P PX K (n + 1) 0 [l0, l1, l2, l3, l4, l5, l6] r (σ, sz, k, c) = zk_run E (zk_VT E) M_X5_windowsWide (C_X5_windowsWide E) P PX K n 1 [l0, l1, l2, l3, l4, l5, l6] (.int (0) :: r) (σ, sz, k, c)) ∧
  (∀ (n : Nat) (l0 l1 l2 l3 l4 l5 l6 : Option Value) (x : Int32) (r : List Value) (σ : zk_S) (sz k c : Nat), zk_run E (zk_VT E) M_X5_windowsWide (C_X5_windowsWide E) P PX K (n + 1) 1 [l0, l1, l2, l3, l4, l5, l6] (.int x :: r) (σ, sz, k, c) = zk_run E (zk_VT E) M_X5_windowsWide (C_X5_windowsWide E) P PX K n 2 [l0, zk_kl l1, some (.int x), l3, l4, l5, l6] r (σ, sz, k, c)) ∧
  (∀ (n : Nat) (l1 l2 l3 l4 l5 l6 : Option Value) (y0 : Value) (r : List Value) (σ : zk_S) (sz k c : Nat), zk_run E (zk_VT E) M_X5_windowsWide (C_X5_windowsWide E) P PX K (n + 1) 2 [some y0, l1, l2, l3, l4, l5, l6] r (σ, sz, k, c) = (zk_isr y0 ∧ zk_run E (zk_VT E) M_X5_windowsWide (C_X5_windowsWide E) P PX K n 3 [some y0, l1, l2, l3, l4, l5, l6] (y0 :: r) (σ, sz, k, c))) ∧
  (∀ (n : Nat) (l0 l1 l2 l3 l4 l5 l6 : Option Value) (a : Nat) (r : List Value) (σ : zk_S) (sz k c : Nat), zk_run E (zk_VT E) M_X5_windowsWide (C_X5_windowsWide E) P PX K (n + 1) 3 [l0, l1, l2, l3, l4, l5, l6] (.ref a :: r) (σ, sz, k, c) = zk_fld (zk_view E σ a) [4] 2 (fun v => zk_run E (zk_VT E) M_X5_windowsWide (C_X5_windowsWide E) P PX K n 6 [l0, l1, l2, l3, l4, l5, l6] (v :: r) (σ, sz, k, c))) ∧
  (∀ (n : Nat) (l0 l1 l2 l3 l4 l5 l6 : Option Value) (x : Value) (r : List Value) (σ : zk_S) (sz k c : Nat), zk_run E (zk_VT E) M_X5_windowsWide (C_X5_windowsWide E) P PX K (n + 1) 6 [l0, l1, l2, l3, l4, l5, l6] (x :: r) (σ, sz, k, c) = (zk_isr x ∧ zk_run E (zk_VT E) M_X5_windowsWide (C_X5_windowsWide E) P PX K n 7 [l0, l1, zk_kl l2, some (x), l4, l5, l6] r (σ, sz, k, c))) ∧
  (∀ (n : Nat) (l0 l1 l2 l4 l5 l6 : Option Value) (y3 : Value) (r : List Value) (σ : zk_S) (sz k c : Nat), zk_run E (zk_VT E) M_X5_windowsWide (C_X5_windowsWide E) P PX K (n + 1) 7 [l0, l1, l2, some y3, l4, l5, l6] r (σ, sz, k, c) = (zk_isr y3 ∧ zk_run E (zk_VT E) M_X5_windowsWide (C_X5_windowsWide E) P PX K n 8 [l0, l1, l2, some y3, l4, l5, l6] (y3 :: r) (σ, sz, k, c))) ∧
  (∀ (n : Nat) (l0 l1 l2 l3 l4 l5 l6 : Option Value) (a : Nat) (r : List Value) (σ : zk_S) (sz k c : Nat), zk_run E (zk_VT E) M_X5_windowsWide (C_X5_windowsWide E) P PX K (n + 1) 8 [l0, l1, l2, l3, l4, l5, l6] (.ref a :: r) (σ, sz, k, c) = zk_lenq E (zk_view E σ a) (fun x => zk_run E (zk_VT E) M_X5_windowsWide (C_X5_windowsWide E) P PX K n 9 [l0, l1, l2, l3, l4, l5, l6] (.int x :: r) (σ, sz, k, c))) ∧
  (∀ (n : Nat) (l0 l1 l2 l3 l4 l5 l6 : Option Value) (x : Int32) (r : List Value) (σ : zk_S) (sz k c : Nat), zk_run E (zk_VT E) M_X5_windowsWide (C_X5_windowsWide E) P PX K (n + 1) 9 [l0, l1, l2, l3, l4, l5, l6] (.int x :: r) (σ, sz, k, c) = zk_run E (zk_VT E) M_X5_windowsWide (C_X5_windowsWide E) P PX K n 11 [l0, l1, l2, zk_kl l3, some (.int x), l5, l6] r (σ, sz, k, c)) ∧
  (∀ (n : Nat) (l0 l1 l2 l3 l4 l5 l6 : Option Value)  (r : List Value) (σ : zk_S) (sz k c : Nat), zk_run E (zk_VT E) M_X5_windowsWide (C_X5_windowsWide E) P PX K (n + 1) 11 [l0, l1, l2, l3, l4, l5, l6] r (σ, sz, k, c) = zk_run E (zk_VT E) M_X5_windowsWide (C_X5_windowsWide E) P PX K n 12 [l0, l1, l2, l3, l4, l5, l6] (.int (0) :: r) (σ, sz, k, c)) ∧
  (∀ (n : Nat) (l0 l1 l2 l3 l4 l5 l6 : Option Value) (x : Int32) (r : List Value) (σ : zk_S) (sz k c : Nat), zk_run E (zk_VT E) M_X5_windowsWide (C_X5_windowsWide E) P PX K (n + 1) 12 [l0, l1, l2, l3, l4, l5, l6] (.int x :: r) (σ, sz, k, c) = zk_run E (zk_VT E) M_X5_windowsWide (C_X5_windowsWide E) P PX K n 14 [l0, l1, l2, l3, zk_kl l4, some (.int x), l6] r (σ, sz, k, c)) ∧
  (∀ (n : Nat) (l0 l1 l2 l3 l4 l5 l6 : Option Value)  (r : List Value) (σ : zk_S) (sz k c : Nat), zk_run E (zk_VT E) M_X5_windowsWide (C_X5_windowsWide E) P PX K (n + 1) 14 [l0, l1, l2, l3, l4, l5, l6] r (σ, sz, k, c) = K 14 [l0, l1, l2, l3, l4, l5, l6] r (σ, sz, k, c)) ∧
  (∀ (n : Nat) (l0 l1 l2 l3 l5 l6 : Option Value) (y4 : Int32) (r : List Value) (σ : zk_S) (sz k c : Nat), zk_run E (zk_VT E) M_X5_windowsWide (C_X5_windowsWide E) P PX K (n + 1) 16 [l0, l1, l2, l3, some (.int y4), l5, l6] r (σ, sz, k, c) = zk_run E (zk_VT E) M_X5_windowsWide (C_X5_windowsWide E) P PX K n 18 [l0, l1, l2, l3, some (.int y4), l5, l6] (.int y4 :: r) (σ, sz, k, c)) ∧
  (∀ (n : Nat) (l0 l1 l2 l3 l4 l5 l6 : Option Value) (x y : Int32) (r : List Value) (σ : zk_S) (sz k c : Nat), zk_run E (zk_VT E) M_X5_windowsWide (C_X5_windowsWide E) P PX K (n + 1) 18 [l0, l1, l2, l3, l4, l5, l6] (.int y :: .int x :: r) (σ, sz, k, c) = ((y ≤ x → zk_run E (zk_VT E) M_X5_windowsWide (C_X5_windowsWide E) P PX K n 58 [l0, l1, l2, l3, l4, l5, l6] r (σ, sz, k, c)) ∧ (¬ (y ≤ x) → zk_run E (zk_VT E) M_X5_windowsWide (C_X5_windowsWide E) P PX K n 21 [l0, l1, l2, l3, l4, l5, l6] r (σ, sz, k, c)))) ∧
  (∀ (n : Nat) (l0 l1 l2 l4 l5 l6 : Option Value) (y3 : Value) (r : List Value) (σ : zk_S) (sz k c : Nat), zk_run E (zk_VT E) M_X5_windowsWide (C_X5_windowsWide E) P PX K (n + 1) 21 [l0, l1, l2, some y3, l4, l5, l6] r (σ, sz, k, c) = (zk_isr y3 ∧ zk_run E (zk_VT E) M_X5_windowsWide (C_X5_windowsWide E) P PX K n 22 [l0, l1, l2, some y3, l4, l5, l6] (y3 :: r) (σ, sz, k, c))) ∧
  (∀ (n : Nat) (l0 l1 l2 l3 l4 l6 : Option Value) (y5 : Int32) (r : List Value) (σ : zk_S) (sz k c : Nat), zk_run E (zk_VT E) M_X5_windowsWide (C_X5_windowsWide E) P PX K (n + 1) 22 [l0, l1, l2, l3, l4, some (.int y5), l6] r (σ, sz, k, c) = zk_run E (zk_VT E) M_X5_windowsWide (C_X5_windowsWide E) P PX K n 24 [l0, l1, l2, l3, l4, some (.int y5), l6] (.int y5 :: r) (σ, sz, k, c)) ∧
  (∀ (n : Nat) (l0 l1 l2 l3 l4 l5 l6 : Option Value) (a : Nat) (i : Int32) (r : List Value) (σ : zk_S) (sz k c : Nat), zk_run E (zk_VT E) M_X5_windowsWide (C_X5_windowsWide E) P PX K (n + 1) 24 [l0, l1, l2, l3, l4, l5, l6] (.int i :: .ref a :: r) (σ, sz, k, c) = zk_qld (zk_view E σ a) i [zk_ar E 3, zk_ar E 4, zk_ar E 5, zk_ar E 6, zk_ar E 7] (fun x => (x = none → zk_run E (zk_VT E) M_X5_windowsWide (C_X5_windowsWide E) P PX K n 25 [l0, l1, l2, l3, l4, l5, l6] (.null :: r) (σ, sz, k, c)) ∧ ∀ b, x = some b → zk_run E (zk_VT E) M_X5_windowsWide (C_X5_windowsWide E) P PX K n 25 [l0, l1, l2, l3, l4, l5, l6] (.ref b :: r) (σ, sz, k, c))) ∧
  (∀ (n : Nat) (l0 l1 l2 l3 l4 l5 l6 : Option Value) (x : Value) (r : List Value) (σ : zk_S) (sz k c : Nat), zk_run E (zk_VT E) M_X5_windowsWide (C_X5_windowsWide E) P PX K (n + 1) 25 [l0, l1, l2, l3, l4, l5, l6] (x :: r) (σ, sz, k, c) = (zk_isr x ∧ zk_run E (zk_VT E) M_X5_windowsWide (C_X5_windowsWide E) P PX K n 27 [l0, l1, l2, l3, l4, zk_kl l5, some (x)] r (σ, sz, k, c))) ∧
  (∀ (n : Nat) (l0 l1 l2 l3 l4 l5 : Option Value) (y6 : Value) (r : List Value) (σ : zk_S) (sz k c : Nat), zk_run E (zk_VT E) M_X5_windowsWide (C_X5_windowsWide E) P PX K (n + 1) 27 [l0, l1, l2, l3, l4, l5, some y6] r (σ, sz, k, c) = (zk_isr y6 ∧ zk_run E (zk_VT E) M_X5_windowsWide (C_X5_windowsWide E) P PX K n 29 [l0, l1, l2, l3, l4, l5, some y6] (y6 :: r) (σ, sz, k, c))) ∧
  (∀ (n : Nat) (l0 l1 l2 l3 l4 l5 l6 : Option Value) (v : Value) (r : List Value) (σ : zk_S) (sz k c : Nat), zk_run E (zk_VT E) M_X5_windowsWide (C_X5_windowsWide E) P PX K (n + 1) 29 [l0, l1, l2, l3, l4, l5, l6] (v :: r) (σ, sz, k, c) = (zk_isr v ∧ (v = .null → zk_run E (zk_VT E) M_X5_windowsWide (C_X5_windowsWide E) P PX K n 52 [l0, l1, l2, l3, l4, l5, l6] r (σ, sz, k, c)) ∧ (¬ (v = .null) → zk_run E (zk_VT E) M_X5_windowsWide (C_X5_windowsWide E) P PX K n 32 [l0, l1, l2, l3, l4, l5, l6] r (σ, sz, k, c)))) ∧
  (∀ (n : Nat) (l0 l1 l2 l3 l4 l5 : Option Value) (y6 : Value) (r : List Value) (σ : zk_S) (sz k c : Nat), zk_run E (zk_VT E) M_X5_windowsWide (C_X5_windowsWide E) P PX K (n + 1) 32 [l0, l1, l2, l3, l4, l5, some y6] r (σ, sz, k, c) = (zk_isr y6 ∧ zk_run E (zk_VT E) M_X5_windowsWide (C_X5_windowsWide E) P PX K n 34 [l0, l1, l2, l3, l4, l5, some y6] (y6 :: r) (σ, sz, k, c))) ∧
  (∀ (n : Nat) (l0 l1 l2 l3 l4 l5 l6 : Option Value) (a : Nat) (r : List Value) (σ : zk_S) (sz k c : Nat), zk_run E (zk_VT E) M_X5_windowsWide (C_X5_windowsWide E) P PX K (n + 1) 34 [l0, l1, l2, l3, l4, l5, l6] (.ref a :: r) (σ, sz, k, c) = zk_fld (zk_view E σ a) [] 0 (fun v => zk_run E (zk_VT E) M_X5_windowsWide (C_X5_windowsWide E) P PX K n 37 [l0, l1, l2, l3, l4, l5, l6] (v :: r) (σ, sz, k, c))) ∧
  (∀ (n : Nat) (l0 l2 l3 l4 l5 l6 : Option Value) (y1 : Value) (r : List Value) (σ : zk_S) (sz k c : Nat), zk_run E (zk_VT E) M_X5_windowsWide (C_X5_windowsWide E) P PX K (n + 1) 37 [l0, some y1, l2, l3, l4, l5, l6] r (σ, sz, k, c) = (zk_isr y1 ∧ zk_run E (zk_VT E) M_X5_windowsWide (C_X5_windowsWide E) P PX K n 38 [l0, some y1, l2, l3, l4, l5, l6] (y1 :: r) (σ, sz, k, c))) ∧
  (∀ (n : Nat) (l0 l1 l2 l3 l4 l5 l6 : Option Value) (x y : Value) (r : List Value) (σ : zk_S) (sz k c : Nat), zk_run E (zk_VT E) M_X5_windowsWide (C_X5_windowsWide E) P PX K (n + 1) 38 [l0, l1, l2, l3, l4, l5, l6] (y :: x :: r) (σ, sz, k, c) = (zk_isr x ∧ zk_isr y ∧ (¬ x = y → zk_run E (zk_VT E) M_X5_windowsWide (C_X5_windowsWide E) P PX K n 52 [l0, l1, l2, l3, l4, l5, l6] r (σ, sz, k, c)) ∧ (¬ (¬ x = y) → zk_run E (zk_VT E) M_X5_windowsWide (C_X5_windowsWide E) P PX K n 41 [l0, l1, l2, l3, l4, l5, l6] r (σ, sz, k, c)))) ∧
  (∀ (n : Nat) (l0 l1 l3 l4 l5 l6 : Option Value) (y2 : Int32) (r : List Value) (σ : zk_S) (sz k c : Nat), zk_run E (zk_VT E) M_X5_windowsWide (C_X5_windowsWide E) P PX K (n + 1) 41 [l0, l1, some (.int y2), l3, l4, l5, l6] r (σ, sz, k, c) = zk_run E (zk_VT E) M_X5_windowsWide (C_X5_windowsWide E) P PX K n 42 [l0, l1, some (.int y2), l3, l4, l5, l6] (.int y2 :: r) (σ, sz, k, c)) ∧
  (∀ (n : Nat) (l0 l1 l2 l3 l4 l5 : Option Value) (y6 : Value) (r : List Value) (σ : zk_S) (sz k c : Nat), zk_run E (zk_VT E) M_X5_windowsWide (C_X5_windowsWide E) P PX K (n + 1) 42 [l0, l1, l2, l3, l4, l5, some y6] r (σ, sz, k, c) = (zk_isr y6 ∧ zk_run E (zk_VT E) M_X5_windowsWide (C_X5_windowsWide E) P PX K n 44 [l0, l1, l2, l3, l4, l5, some y6] (y6 :: r) (σ, sz, k, c))) ∧
  (∀ (n : Nat) (l0 l1 l2 l3 l4 l5 l6 : Option Value) (a : Nat) (r : List Value) (σ : zk_S) (sz k c : Nat), zk_run E (zk_VT E) M_X5_windowsWide (C_X5_windowsWide E) P PX K (n + 1) 44 [l0, l1, l2, l3, l4, l5, l6] (.ref a :: r) (σ, sz, k, c) = zk_fld (zk_view E σ a) [] 0 (fun v => zk_run E (zk_VT E) M_X5_windowsWide (C_X5_windowsWide E) P PX K n 47 [l0, l1, l2, l3, l4, l5, l6] (v :: r) (σ, sz, k, c))) ∧
  (∀ (n : Nat) (l0 l1 l2 l3 l4 l5 l6 : Option Value) (a : Nat) (r : List Value) (σ : zk_S) (sz k c : Nat), zk_run E (zk_VT E) M_X5_windowsWide (C_X5_windowsWide E) P PX K (n + 1) 47 [l0, l1, l2, l3, l4, l5, l6] (.ref a :: r) (σ, sz, k, c) = zk_fld (zk_view E σ a) [3] 4 (fun v => zk_run E (zk_VT E) M_X5_windowsWide (C_X5_windowsWide E) P PX K n 50 [l0, l1, l2, l3, l4, l5, l6] (v :: r) (σ, sz, k, c))) ∧
  (∀ (n : Nat) (l0 l1 l2 l3 l4 l5 l6 : Option Value) (x y : Int32) (r : List Value) (σ : zk_S) (sz k c : Nat), zk_run E (zk_VT E) M_X5_windowsWide (C_X5_windowsWide E) P PX K (n + 1) 50 [l0, l1, l2, l3, l4, l5, l6] (.int y :: .int x :: r) (σ, sz, k, c) = zk_run E (zk_VT E) M_X5_windowsWide (C_X5_windowsWide E) P PX K n 51 [l0, l1, l2, l3, l4, l5, l6] (.int (x + y) :: r) (σ, sz, k, c)) ∧
  (∀ (n : Nat) (l0 l1 l2 l3 l4 l5 l6 : Option Value) (x : Int32) (r : List Value) (σ : zk_S) (sz k c : Nat), zk_run E (zk_VT E) M_X5_windowsWide (C_X5_windowsWide E) P PX K (n + 1) 51 [l0, l1, l2, l3, l4, l5, l6] (.int x :: r) (σ, sz, k, c) = zk_run E (zk_VT E) M_X5_windowsWide (C_X5_windowsWide E) P PX K n 52 [l0, zk_kl l1, some (.int x), l3, l4, l5, l6] r (σ, sz, k, c)) ∧
  (∀ (n : Nat) (l0 l1 l2 l3 l4 l6 : Option Value) (y5 : Int32) (r : List Value) (σ : zk_S) (sz k c : Nat), zk_run E (zk_VT E) M_X5_windowsWide (C_X5_windowsWide E) P PX K (n + 1) 52 [l0, l1, l2, l3, l4, some (.int y5), l6] r (σ, sz, k, c) = zk_run E (zk_VT E) M_X5_windowsWide (C_X5_windowsWide E) P PX K n 55 [l0, l1, l2, l3, zk_kl l4, some (.int (y5 + 1)), l6] r (σ, sz, k, c)) ∧
  (∀ (n : Nat) (l0 l1 l2 l3 l4 l5 l6 : Option Value)  (r : List Value) (σ : zk_S) (sz k c : Nat), zk_run E (zk_VT E) M_X5_windowsWide (C_X5_windowsWide E) P PX K (n + 1) 55 [l0, l1, l2, l3, l4, l5, l6] r (σ, sz, k, c) = zk_run E (zk_VT E) M_X5_windowsWide (C_X5_windowsWide E) P PX K n 14 [l0, l1, l2, l3, l4, l5, l6] r (σ, sz, k, c)) ∧
  (∀ (n : Nat) (l0 l1 l3 l4 l5 l6 : Option Value) (y2 : Int32) (r : List Value) (σ : zk_S) (sz k c : Nat), zk_run E (zk_VT E) M_X5_windowsWide (C_X5_windowsWide E) P PX K (n + 1) 58 [l0, l1, some (.int y2), l3, l4, l5, l6] r (σ, sz, k, c) = zk_run E (zk_VT E) M_X5_windowsWide (C_X5_windowsWide E) P PX K n 59 [l0, l1, some (.int y2), l3, l4, l5, l6] (.int y2 :: r) (σ, sz, k, c)) ∧
  (∀ (n : Nat) (l0 l1 l2 l3 l4 l5 l6 : Option Value) (x : Int32)  (σ : zk_S) (sz k c : Nat), zk_run E (zk_VT E) M_X5_windowsWide (C_X5_windowsWide E) P PX K (n + 1) 59 [l0, l1, l2, l3, l4, l5, l6] [.int x] (σ, sz, k, c) = (zk_nok (some (.int)) x ∧ P (some (.int x)) σ sz ∧ k ≤ 0 ∧ c ≤ 0)) ∧
  (∀ (n : Nat) (l0 l1 l2 l3 l4 l5 l6 : Option Value) (r : List Value) (w : zk_W zk_S), zk_go E (zk_VT E) M_X5_windowsWide (C_X5_windowsWide E) P PX K n 0 [l0, l1, l2, l3, l4, l5, l6] r w = zk_run E (zk_VT E) M_X5_windowsWide (C_X5_windowsWide E) P PX K (n + 1) 0 [l0, l1, l2, l3, l4, l5, l6] r w) ∧
  (∀ (n : Nat) (l0 l1 l2 l3 l4 l6 : Option Value) (y5 : Int32) (r : List Value) (σ : zk_S) (sz k c : Nat), zk_go E (zk_VT E) M_X5_windowsWide (C_X5_windowsWide E) P PX K n 14 [l0, l1, l2, l3, l4, some (.int y5), l6] r (σ, sz, k, c) = zk_run E (zk_VT E) M_X5_windowsWide (C_X5_windowsWide E) P PX K n 16 [l0, l1, l2, l3, l4, some (.int y5), l6] (.int y5 :: r) (σ, sz, k, c)) := ⟨by intros; rfl, by intros; rfl, by intros; rfl, by intros; rfl, by intros; rfl, by intros; rfl, by intros; rfl, by intros; rfl, by intros; rfl, by intros; rfl, by intros; rfl, by intros; rfl, by intros; rfl, by intros; rfl, by intros; rfl, by intros; rfl, by intros; rfl, by intros; rfl, by intros; rfl, by intros; rfl, by intros; rfl, by intros; rfl, by intros; rfl, by intros; rfl, by intros; rfl, by intros; rfl, by intros; rfl, by intros; rfl, by intros; rfl, by intros; rfl, by intros; rfl, by intros; rfl, by intros; rfl, by intros; rfl, by intros; rfl⟩
theorem vc_X5_windowsWide (E : zk_E) : zk_VC E (zk_VT E) M_X5_windowsWide (C_X5_windowsWide E) 7 (sp_X5_windowsWide E) := by
  intro av σ sz P PX h
  obtain ⟨J, N, Q, O, U⟩ := σ
  unfold sp_X5_windowsWide at h
  split at h
  case h_2 => exact h.elim
  rename_i a0 b
  obtain ⟨rfl, h⟩ := h
  refine ⟨Nat.le_of_ble_eq_true rfl, fun G hG => ?_⟩
  change G 0 [some (.ref (zk_ad E 1)), some (.ref b), none, none, none, none, none] [] ((J, N, Q, O, U), sz, 0, 0)
  try dsimp only at h
  obtain ⟨hw, h⟩ := h
  have c40 : Int32.ofNat 40 = nI 40 := rfl
  have loop : ∀ m i l4, i + m = 40 → G 14 [some (.ref (zk_ad E 1)), some (.ref b), some (.int (m_sum (w_wide Q O b) i)), some (.ref (zk_ad E 4)), some (.int (nI 40)), some (.int (nI i)), l4] [] ((J, N, Q, O, U), sz, 0, 0) := by
    intro m
    induction m with
    | zero =>
      intro i l4 hi
      have c1 : nI 40 ≤ nI i := nI_le (by omega) (by omega)
      have ei : i = 40 := by omega
      subst ei
      (refine hG 900 _ _ _ _ ?_; simp only [r_X5_windowsWide, c1])
      exact h
    | succ m ih =>
      intro i l4 hi
      have c1 : ¬ nI 40 ≤ nI i := nI_ge (by omega) (by omega)
      have ih2 := fun l4 => ih (i + 1) l4 (by omega)
      rw [m_sum] at ih2
      have hin : vp_in (nI i) 40 := n_in (by omega) (by decide)
      have hcl : (nI i).toNatClampNeg = i := n_cl (by omega)
      cases q : Q 4 i with
      | none =>
        have e0 : w_wide Q O b i = 0 := by unfold w_wide; rw [q]
        rw [e0, Int32.add_zero] at ih2
        (refine hG 900 _ _ _ _ ?_; simp only [r_X5_windowsWide, c1, hin, hcl, q, n_succ])
        exact ih2 _
      | some c =>
        exact (hw i (by omega) c q).elim
  have l0 := loop 40 0 none (by omega)
  (refine hG 900 _ _ _ _ ?_; simp only [r_X5_windowsWide, c40])
  exact l0
theorem ct_X5_windowsWide {l : Launch} (hl : l.stackTraces = false) (E : zk_E) : zk_C l E (zk_VT E) yX5_windowsWide cX5_windowsWide 7 (some (.int)) rm_X5_windowsWide (sp_X5_windowsWide E) := by
  refine zk_meth (M := M_X5_windowsWide) (C := C_X5_windowsWide E) hl (by decide +kernel) rfl (fun _ _ => rfl) (zk_VT_ok E) MO_X5_windowsWide TO_X5_windowsWide THo_X5_windowsWide ?_ (vc_X5_windowsWide E)
  exact fun p e s m args below meth c X pc n mc ms sp2 h => absurd (zk_lka_mem h) List.not_mem_nil
def r_wet (Q : Nat → Nat → Option Nat) (O : zk_Hp) (o : Option va_E) (r : Nat) : Int32 := match Q 2 r with
  | some a => if fI (O a) 6 = 0 ∧ fI (O a) 1 = fI o 1 - 1 then m_cm o (O a) else 0
  | none => 0
def sp_X5_unitsAboveDwellings (E : zk_E) : zk_Sp zk_S := fun av σ sz P PX => match av with
  | [.ref a, .ref b] => a = zk_ad E 1 ∧ ROK E σ.2.2.1 σ.2.2.2.1 ∧ E.1 + 28 ≤ b ∧ isR (σ.2.2.2.1 b) ∧ P (some (.int (m_sum (r_wet σ.2.2.1 σ.2.2.2.1 (σ.2.2.2.1 b)) 20))) σ sz
  | _ => False
theorem spe_X5_unitsAboveDwellings (E : zk_E) (a : Nat) (b : Nat) (σ : zk_S) (sz : Nat) (P : zk_P zk_S) (PX : zk_X zk_S) : sp_X5_unitsAboveDwellings E [.ref a, .ref b] σ sz P PX = (a = zk_ad E 1 ∧ ROK E σ.2.2.1 σ.2.2.2.1 ∧ E.1 + 28 ≤ b ∧ isR (σ.2.2.2.1 b) ∧ P (some (.int (m_sum (r_wet σ.2.2.1 σ.2.2.2.1 (σ.2.2.2.1 b)) 20))) σ sz) := propext Iff.rfl
def C_X5_unitsAboveDwellings (E : zk_E) : zk_Cl zk_S := zk_lka [(58, 2, 0, 0, zk_rv (zk_VT E) (fun ci => Nat.beq ci 5) (sp_X6_unitsInCommon E))]
theorem r_X5_unitsAboveDwellings (E : zk_E) (P : zk_P zk_S) (PX : zk_X zk_S) (K : Nat → zk_L → List Value → zk_W zk_S → Prop) : (∀ (n : Nat) (l0 l1 l2 l3 l4 l5 l6 : Option Value)  (r : List Value) (σ : zk_S) (sz k c : Nat), zk_run E (zk_VT E) M_X5_unitsAboveDwellings (C_X5_unitsAboveDwellings E) P PX K (n + 1) 0 [l0, l1, l2, l3, l4, l5, l6] r (σ, sz, k, c) = zk_run E (zk_VT E) M_X5_unitsAboveDwellings (C_X5_unitsAboveDwellings E) P PX K n 1 [l0, l1, l2, l3, l4, l5, l6] (.int (0) :: r) (σ, sz, k, c)) ∧
  (∀ (n : Nat) (l0 l1 l2 l3 l4 l5 l6 : Option Value) (x : Int32) (r : List Value) (σ : zk_S) (sz k c : Nat), zk_run E (zk_VT E) M_X5_unitsAboveDwellings (C_X5_unitsAboveDwellings E) P PX K (n + 1) 1 [l0, l1, l2, l3, l4, l5, l6] (.int x :: r) (σ, sz, k, c) = zk_run E (zk_VT E) M_X5_unitsAboveDwellings (C_X5_unitsAboveDwellings E) P PX K n 2 [l0, zk_kl l1, some (.int x), l3, l4, l5, l6] r (σ, sz, k, c)) ∧
  (∀ (n : Nat) (l1 l2 l3 l4 l5 l6 : Option Value) (y0 : Value) (r : List Value) (σ : zk_S) (sz k c : Nat), zk_run E (zk_VT E) M_X5_unitsAboveDwellings (C_X5_unitsAboveDwellings E) P PX K (n + 1) 2 [some y0, l1, l2, l3, l4, l5, l6] r (σ, sz, k, c) = (zk_isr y0 ∧ zk_run E (zk_VT E) M_X5_unitsAboveDwellings (C_X5_unitsAboveDwellings E) P PX K n 3 [some y0, l1, l2, l3, l4, l5, l6] (y0 :: r) (σ, sz, k, c))) ∧
  (∀ (n : Nat) (l0 l1 l2 l3 l4 l5 l6 : Option Value) (a : Nat) (r : List Value) (σ : zk_S) (sz k c : Nat), zk_run E (zk_VT E) M_X5_unitsAboveDwellings (C_X5_unitsAboveDwellings E) P PX K (n + 1) 3 [l0, l1, l2, l3, l4, l5, l6] (.ref a :: r) (σ, sz, k, c) = zk_fld (zk_view E σ a) [4] 0 (fun v => zk_run E (zk_VT E) M_X5_unitsAboveDwellings (C_X5_unitsAboveDwellings E) P PX K n 6 [l0, l1, l2, l3, l4, l5, l6] (v :: r) (σ, sz, k, c))) ∧
  (∀ (n : Nat) (l0 l1 l2 l3 l4 l5 l6 : Option Value) (x : Value) (r : List Value) (σ : zk_S) (sz k c : Nat), zk_run E (zk_VT E) M_X5_unitsAboveDwellings (C_X5_unitsAboveDwellings E) P PX K (n + 1) 6 [l0, l1, l2, l3, l4, l5, l6] (x :: r) (σ, sz, k, c) = (zk_isr x ∧ zk_run E (zk_VT E) M_X5_unitsAboveDwellings (C_X5_unitsAboveDwellings E) P PX K n 7 [l0, l1, zk_kl l2, some (x), l4, l5, l6] r (σ, sz, k, c))) ∧
  (∀ (n : Nat) (l0 l1 l2 l4 l5 l6 : Option Value) (y3 : Value) (r : List Value) (σ : zk_S) (sz k c : Nat), zk_run E (zk_VT E) M_X5_unitsAboveDwellings (C_X5_unitsAboveDwellings E) P PX K (n + 1) 7 [l0, l1, l2, some y3, l4, l5, l6] r (σ, sz, k, c) = (zk_isr y3 ∧ zk_run E (zk_VT E) M_X5_unitsAboveDwellings (C_X5_unitsAboveDwellings E) P PX K n 8 [l0, l1, l2, some y3, l4, l5, l6] (y3 :: r) (σ, sz, k, c))) ∧
  (∀ (n : Nat) (l0 l1 l2 l3 l4 l5 l6 : Option Value) (a : Nat) (r : List Value) (σ : zk_S) (sz k c : Nat), zk_run E (zk_VT E) M_X5_unitsAboveDwellings (C_X5_unitsAboveDwellings E) P PX K (n + 1) 8 [l0, l1, l2, l3, l4, l5, l6] (.ref a :: r) (σ, sz, k, c) = zk_lenq E (zk_view E σ a) (fun x => zk_run E (zk_VT E) M_X5_unitsAboveDwellings (C_X5_unitsAboveDwellings E) P PX K n 9 [l0, l1, l2, l3, l4, l5, l6] (.int x :: r) (σ, sz, k, c))) ∧
  (∀ (n : Nat) (l0 l1 l2 l3 l4 l5 l6 : Option Value) (x : Int32) (r : List Value) (σ : zk_S) (sz k c : Nat), zk_run E (zk_VT E) M_X5_unitsAboveDwellings (C_X5_unitsAboveDwellings E) P PX K (n + 1) 9 [l0, l1, l2, l3, l4, l5, l6] (.int x :: r) (σ, sz, k, c) = zk_run E (zk_VT E) M_X5_unitsAboveDwellings (C_X5_unitsAboveDwellings E) P PX K n 11 [l0, l1, l2, zk_kl l3, some (.int x), l5, l6] r (σ, sz, k, c)) ∧
  (∀ (n : Nat) (l0 l1 l2 l3 l4 l5 l6 : Option Value)  (r : List Value) (σ : zk_S) (sz k c : Nat), zk_run E (zk_VT E) M_X5_unitsAboveDwellings (C_X5_unitsAboveDwellings E) P PX K (n + 1) 11 [l0, l1, l2, l3, l4, l5, l6] r (σ, sz, k, c) = zk_run E (zk_VT E) M_X5_unitsAboveDwellings (C_X5_unitsAboveDwellings E) P PX K n 12 [l0, l1, l2, l3, l4, l5, l6] (.int (0) :: r) (σ, sz, k, c)) ∧
  (∀ (n : Nat) (l0 l1 l2 l3 l4 l5 l6 : Option Value) (x : Int32) (r : List Value) (σ : zk_S) (sz k c : Nat), zk_run E (zk_VT E) M_X5_unitsAboveDwellings (C_X5_unitsAboveDwellings E) P PX K (n + 1) 12 [l0, l1, l2, l3, l4, l5, l6] (.int x :: r) (σ, sz, k, c) = zk_run E (zk_VT E) M_X5_unitsAboveDwellings (C_X5_unitsAboveDwellings E) P PX K n 14 [l0, l1, l2, l3, zk_kl l4, some (.int x), l6] r (σ, sz, k, c)) ∧
  (∀ (n : Nat) (l0 l1 l2 l3 l4 l5 l6 : Option Value)  (r : List Value) (σ : zk_S) (sz k c : Nat), zk_run E (zk_VT E) M_X5_unitsAboveDwellings (C_X5_unitsAboveDwellings E) P PX K (n + 1) 14 [l0, l1, l2, l3, l4, l5, l6] r (σ, sz, k, c) = K 14 [l0, l1, l2, l3, l4, l5, l6] r (σ, sz, k, c)) ∧
  (∀ (n : Nat) (l0 l1 l2 l3 l5 l6 : Option Value) (y4 : Int32) (r : List Value) (σ : zk_S) (sz k c : Nat), zk_run E (zk_VT E) M_X5_unitsAboveDwellings (C_X5_unitsAboveDwellings E) P PX K (n + 1) 16 [l0, l1, l2, l3, some (.int y4), l5, l6] r (σ, sz, k, c) = zk_run E (zk_VT E) M_X5_unitsAboveDwellings (C_X5_unitsAboveDwellings E) P PX K n 18 [l0, l1, l2, l3, some (.int y4), l5, l6] (.int y4 :: r) (σ, sz, k, c)) ∧
  (∀ (n : Nat) (l0 l1 l2 l3 l4 l5 l6 : Option Value) (x y : Int32) (r : List Value) (σ : zk_S) (sz k c : Nat), zk_run E (zk_VT E) M_X5_unitsAboveDwellings (C_X5_unitsAboveDwellings E) P PX K (n + 1) 18 [l0, l1, l2, l3, l4, l5, l6] (.int y :: .int x :: r) (σ, sz, k, c) = ((y ≤ x → zk_run E (zk_VT E) M_X5_unitsAboveDwellings (C_X5_unitsAboveDwellings E) P PX K n 69 [l0, l1, l2, l3, l4, l5, l6] r (σ, sz, k, c)) ∧ (¬ (y ≤ x) → zk_run E (zk_VT E) M_X5_unitsAboveDwellings (C_X5_unitsAboveDwellings E) P PX K n 21 [l0, l1, l2, l3, l4, l5, l6] r (σ, sz, k, c)))) ∧
  (∀ (n : Nat) (l0 l1 l2 l4 l5 l6 : Option Value) (y3 : Value) (r : List Value) (σ : zk_S) (sz k c : Nat), zk_run E (zk_VT E) M_X5_unitsAboveDwellings (C_X5_unitsAboveDwellings E) P PX K (n + 1) 21 [l0, l1, l2, some y3, l4, l5, l6] r (σ, sz, k, c) = (zk_isr y3 ∧ zk_run E (zk_VT E) M_X5_unitsAboveDwellings (C_X5_unitsAboveDwellings E) P PX K n 22 [l0, l1, l2, some y3, l4, l5, l6] (y3 :: r) (σ, sz, k, c))) ∧
  (∀ (n : Nat) (l0 l1 l2 l3 l4 l6 : Option Value) (y5 : Int32) (r : List Value) (σ : zk_S) (sz k c : Nat), zk_run E (zk_VT E) M_X5_unitsAboveDwellings (C_X5_unitsAboveDwellings E) P PX K (n + 1) 22 [l0, l1, l2, l3, l4, some (.int y5), l6] r (σ, sz, k, c) = zk_run E (zk_VT E) M_X5_unitsAboveDwellings (C_X5_unitsAboveDwellings E) P PX K n 24 [l0, l1, l2, l3, l4, some (.int y5), l6] (.int y5 :: r) (σ, sz, k, c)) ∧
  (∀ (n : Nat) (l0 l1 l2 l3 l4 l5 l6 : Option Value) (a : Nat) (i : Int32) (r : List Value) (σ : zk_S) (sz k c : Nat), zk_run E (zk_VT E) M_X5_unitsAboveDwellings (C_X5_unitsAboveDwellings E) P PX K (n + 1) 24 [l0, l1, l2, l3, l4, l5, l6] (.int i :: .ref a :: r) (σ, sz, k, c) = zk_qld (zk_view E σ a) i [zk_ar E 3, zk_ar E 4, zk_ar E 5, zk_ar E 6, zk_ar E 7] (fun x => (x = none → zk_run E (zk_VT E) M_X5_unitsAboveDwellings (C_X5_unitsAboveDwellings E) P PX K n 25 [l0, l1, l2, l3, l4, l5, l6] (.null :: r) (σ, sz, k, c)) ∧ ∀ b, x = some b → zk_run E (zk_VT E) M_X5_unitsAboveDwellings (C_X5_unitsAboveDwellings E) P PX K n 25 [l0, l1, l2, l3, l4, l5, l6] (.ref b :: r) (σ, sz, k, c))) ∧
  (∀ (n : Nat) (l0 l1 l2 l3 l4 l5 l6 : Option Value) (x : Value) (r : List Value) (σ : zk_S) (sz k c : Nat), zk_run E (zk_VT E) M_X5_unitsAboveDwellings (C_X5_unitsAboveDwellings E) P PX K (n + 1) 25 [l0, l1, l2, l3, l4, l5, l6] (x :: r) (σ, sz, k, c) = (zk_isr x ∧ zk_run E (zk_VT E) M_X5_unitsAboveDwellings (C_X5_unitsAboveDwellings E) P PX K n 27 [l0, l1, l2, l3, l4, zk_kl l5, some (x)] r (σ, sz, k, c))) ∧
  (∀ (n : Nat) (l0 l1 l2 l3 l4 l5 : Option Value) (y6 : Value) (r : List Value) (σ : zk_S) (sz k c : Nat), zk_run E (zk_VT E) M_X5_unitsAboveDwellings (C_X5_unitsAboveDwellings E) P PX K (n + 1) 27 [l0, l1, l2, l3, l4, l5, some y6] r (σ, sz, k, c) = (zk_isr y6 ∧ zk_run E (zk_VT E) M_X5_unitsAboveDwellings (C_X5_unitsAboveDwellings E) P PX K n 29 [l0, l1, l2, l3, l4, l5, some y6] (y6 :: r) (σ, sz, k, c))) ∧
  (∀ (n : Nat) (l0 l1 l2 l3 l4 l5 l6 : Option Value) (v : Value) (r : List Value) (σ : zk_S) (sz k c : Nat), zk_run E (zk_VT E) M_X5_unitsAboveDwellings (C_X5_unitsAboveDwellings E) P PX K (n + 1) 29 [l0, l1, l2, l3, l4, l5, l6] (v :: r) (σ, sz, k, c) = (zk_isr v ∧ (v = .null → zk_run E (zk_VT E) M_X5_unitsAboveDwellings (C_X5_unitsAboveDwellings E) P PX K n 63 [l0, l1, l2, l3, l4, l5, l6] r (σ, sz, k, c)) ∧ (¬ (v = .null) → zk_run E (zk_VT E) M_X5_unitsAboveDwellings (C_X5_unitsAboveDwellings E) P PX K n 32 [l0, l1, l2, l3, l4, l5, l6] r (σ, sz, k, c)))) ∧
  (∀ (n : Nat) (l0 l1 l2 l3 l4 l5 : Option Value) (y6 : Value) (r : List Value) (σ : zk_S) (sz k c : Nat), zk_run E (zk_VT E) M_X5_unitsAboveDwellings (C_X5_unitsAboveDwellings E) P PX K (n + 1) 32 [l0, l1, l2, l3, l4, l5, some y6] r (σ, sz, k, c) = (zk_isr y6 ∧ zk_run E (zk_VT E) M_X5_unitsAboveDwellings (C_X5_unitsAboveDwellings E) P PX K n 34 [l0, l1, l2, l3, l4, l5, some y6] (y6 :: r) (σ, sz, k, c))) ∧
  (∀ (n : Nat) (l0 l1 l2 l3 l4 l5 l6 : Option Value) (a : Nat) (r : List Value) (σ : zk_S) (sz k c : Nat), zk_run E (zk_VT E) M_X5_unitsAboveDwellings (C_X5_unitsAboveDwellings E) P PX K (n + 1) 34 [l0, l1, l2, l3, l4, l5, l6] (.ref a :: r) (σ, sz, k, c) = zk_fld (zk_view E σ a) [5] 6 (fun v => zk_run E (zk_VT E) M_X5_unitsAboveDwellings (C_X5_unitsAboveDwellings E) P PX K n 37 [l0, l1, l2, l3, l4, l5, l6] (v :: r) (σ, sz, k, c))) ∧
  (∀ (n : Nat) (l0 l1 l2 l3 l4 l5 l6 : Option Value) (x : Int32) (r : List Value) (σ : zk_S) (sz k c : Nat), zk_run E (zk_VT E) M_X5_unitsAboveDwellings (C_X5_unitsAboveDwellings E) P PX K (n + 1) 37 [l0, l1, l2, l3, l4, l5, l6] (.int x :: r) (σ, sz, k, c) = ((¬ x = 0 → zk_run E (zk_VT E) M_X5_unitsAboveDwellings (C_X5_unitsAboveDwellings E) P PX K n 63 [l0, l1, l2, l3, l4, l5, l6] r (σ, sz, k, c)) ∧ (¬ (¬ x = 0) → zk_run E (zk_VT E) M_X5_unitsAboveDwellings (C_X5_unitsAboveDwellings E) P PX K n 40 [l0, l1, l2, l3, l4, l5, l6] r (σ, sz, k, c)))) ∧
  (∀ (n : Nat) (l0 l1 l2 l3 l4 l5 : Option Value) (y6 : Value) (r : List Value) (σ : zk_S) (sz k c : Nat), zk_run E (zk_VT E) M_X5_unitsAboveDwellings (C_X5_unitsAboveDwellings E) P PX K (n + 1) 40 [l0, l1, l2, l3, l4, l5, some y6] r (σ, sz, k, c) = (zk_isr y6 ∧ zk_run E (zk_VT E) M_X5_unitsAboveDwellings (C_X5_unitsAboveDwellings E) P PX K n 42 [l0, l1, l2, l3, l4, l5, some y6] (y6 :: r) (σ, sz, k, c))) ∧
  (∀ (n : Nat) (l0 l1 l2 l3 l4 l5 l6 : Option Value) (a : Nat) (r : List Value) (σ : zk_S) (sz k c : Nat), zk_run E (zk_VT E) M_X5_unitsAboveDwellings (C_X5_unitsAboveDwellings E) P PX K (n + 1) 42 [l0, l1, l2, l3, l4, l5, l6] (.ref a :: r) (σ, sz, k, c) = zk_fld (zk_view E σ a) [5] 1 (fun v => zk_run E (zk_VT E) M_X5_unitsAboveDwellings (C_X5_unitsAboveDwellings E) P PX K n 45 [l0, l1, l2, l3, l4, l5, l6] (v :: r) (σ, sz, k, c))) ∧
  (∀ (n : Nat) (l0 l2 l3 l4 l5 l6 : Option Value) (y1 : Value) (r : List Value) (σ : zk_S) (sz k c : Nat), zk_run E (zk_VT E) M_X5_unitsAboveDwellings (C_X5_unitsAboveDwellings E) P PX K (n + 1) 45 [l0, some y1, l2, l3, l4, l5, l6] r (σ, sz, k, c) = (zk_isr y1 ∧ zk_run E (zk_VT E) M_X5_unitsAboveDwellings (C_X5_unitsAboveDwellings E) P PX K n 46 [l0, some y1, l2, l3, l4, l5, l6] (y1 :: r) (σ, sz, k, c))) ∧
  (∀ (n : Nat) (l0 l1 l2 l3 l4 l5 l6 : Option Value) (a : Nat) (r : List Value) (σ : zk_S) (sz k c : Nat), zk_run E (zk_VT E) M_X5_unitsAboveDwellings (C_X5_unitsAboveDwellings E) P PX K (n + 1) 46 [l0, l1, l2, l3, l4, l5, l6] (.ref a :: r) (σ, sz, k, c) = zk_fld (zk_view E σ a) [5] 1 (fun v => zk_run E (zk_VT E) M_X5_unitsAboveDwellings (C_X5_unitsAboveDwellings E) P PX K n 49 [l0, l1, l2, l3, l4, l5, l6] (v :: r) (σ, sz, k, c))) ∧
  (∀ (n : Nat) (l0 l1 l2 l3 l4 l5 l6 : Option Value)  (r : List Value) (σ : zk_S) (sz k c : Nat), zk_run E (zk_VT E) M_X5_unitsAboveDwellings (C_X5_unitsAboveDwellings E) P PX K (n + 1) 49 [l0, l1, l2, l3, l4, l5, l6] r (σ, sz, k, c) = zk_run E (zk_VT E) M_X5_unitsAboveDwellings (C_X5_unitsAboveDwellings E) P PX K n 50 [l0, l1, l2, l3, l4, l5, l6] (.int (1) :: r) (σ, sz, k, c)) ∧
  (∀ (n : Nat) (l0 l1 l2 l3 l4 l5 l6 : Option Value) (x y : Int32) (r : List Value) (σ : zk_S) (sz k c : Nat), zk_run E (zk_VT E) M_X5_unitsAboveDwellings (C_X5_unitsAboveDwellings E) P PX K (n + 1) 50 [l0, l1, l2, l3, l4, l5, l6] (.int y :: .int x :: r) (σ, sz, k, c) = zk_run E (zk_VT E) M_X5_unitsAboveDwellings (C_X5_unitsAboveDwellings E) P PX K n 51 [l0, l1, l2, l3, l4, l5, l6] (.int (x - y) :: r) (σ, sz, k, c)) ∧
  (∀ (n : Nat) (l0 l1 l2 l3 l4 l5 l6 : Option Value) (x y : Int32) (r : List Value) (σ : zk_S) (sz k c : Nat), zk_run E (zk_VT E) M_X5_unitsAboveDwellings (C_X5_unitsAboveDwellings E) P PX K (n + 1) 51 [l0, l1, l2, l3, l4, l5, l6] (.int y :: .int x :: r) (σ, sz, k, c) = ((¬ x = y → zk_run E (zk_VT E) M_X5_unitsAboveDwellings (C_X5_unitsAboveDwellings E) P PX K n 63 [l0, l1, l2, l3, l4, l5, l6] r (σ, sz, k, c)) ∧ (¬ (¬ x = y) → zk_run E (zk_VT E) M_X5_unitsAboveDwellings (C_X5_unitsAboveDwellings E) P PX K n 54 [l0, l1, l2, l3, l4, l5, l6] r (σ, sz, k, c)))) ∧
  (∀ (n : Nat) (l0 l1 l3 l4 l5 l6 : Option Value) (y2 : Int32) (r : List Value) (σ : zk_S) (sz k c : Nat), zk_run E (zk_VT E) M_X5_unitsAboveDwellings (C_X5_unitsAboveDwellings E) P PX K (n + 1) 54 [l0, l1, some (.int y2), l3, l4, l5, l6] r (σ, sz, k, c) = zk_run E (zk_VT E) M_X5_unitsAboveDwellings (C_X5_unitsAboveDwellings E) P PX K n 55 [l0, l1, some (.int y2), l3, l4, l5, l6] (.int y2 :: r) (σ, sz, k, c)) ∧
  (∀ (n : Nat) (l0 l2 l3 l4 l5 l6 : Option Value) (y1 : Value) (r : List Value) (σ : zk_S) (sz k c : Nat), zk_run E (zk_VT E) M_X5_unitsAboveDwellings (C_X5_unitsAboveDwellings E) P PX K (n + 1) 55 [l0, some y1, l2, l3, l4, l5, l6] r (σ, sz, k, c) = (zk_isr y1 ∧ zk_run E (zk_VT E) M_X5_unitsAboveDwellings (C_X5_unitsAboveDwellings E) P PX K n 56 [l0, some y1, l2, l3, l4, l5, l6] (y1 :: r) (σ, sz, k, c))) ∧
  (∀ (n : Nat) (l0 l1 l2 l3 l4 l5 : Option Value) (y6 : Value) (r : List Value) (σ : zk_S) (sz k c : Nat), zk_run E (zk_VT E) M_X5_unitsAboveDwellings (C_X5_unitsAboveDwellings E) P PX K (n + 1) 56 [l0, l1, l2, l3, l4, l5, some y6] r (σ, sz, k, c) = (zk_isr y6 ∧ zk_run E (zk_VT E) M_X5_unitsAboveDwellings (C_X5_unitsAboveDwellings E) P PX K n 58 [l0, l1, l2, l3, l4, l5, some y6] (y6 :: r) (σ, sz, k, c))) ∧
  (∀ (n : Nat) (l0 l1 l2 l3 l4 l5 l6 : Option Value) (v0 : Value) (v1 : Value) (v2 : Value)  (σ : zk_S) (sz k c : Nat), zk_run E (zk_VT E) M_X5_unitsAboveDwellings (C_X5_unitsAboveDwellings E) P PX K (n + 1) 58 [l0, l1, l2, l3, l4, l5, l6] [v0, v1, v2] (σ, sz, k, c) = (k + 0 ≤ 0 ∧ c + 0 ≤ 0 ∧ (zk_rv (zk_VT E) (fun ci => Nat.beq ci 5) (sp_X6_unitsInCommon E)) [v1, v0] σ sz (fun v s2 z2 => zk_run E (zk_VT E) M_X5_unitsAboveDwellings (C_X5_unitsAboveDwellings E) P PX K n 61 [l0, l1, l2, l3, l4, l5, l6] (zk_psh v [v2]) (s2, z2, k + 0, c + 0)) (fun X s2 z2 => PX X s2 z2))) ∧
  (∀ (n : Nat) (l0 l1 l2 l3 l4 l5 l6 : Option Value) (x y : Int32) (r : List Value) (σ : zk_S) (sz k c : Nat), zk_run E (zk_VT E) M_X5_unitsAboveDwellings (C_X5_unitsAboveDwellings E) P PX K (n + 1) 61 [l0, l1, l2, l3, l4, l5, l6] (.int y :: .int x :: r) (σ, sz, k, c) = zk_run E (zk_VT E) M_X5_unitsAboveDwellings (C_X5_unitsAboveDwellings E) P PX K n 62 [l0, l1, l2, l3, l4, l5, l6] (.int (x + y) :: r) (σ, sz, k, c)) ∧
  (∀ (n : Nat) (l0 l1 l2 l3 l4 l5 l6 : Option Value) (x : Int32) (r : List Value) (σ : zk_S) (sz k c : Nat), zk_run E (zk_VT E) M_X5_unitsAboveDwellings (C_X5_unitsAboveDwellings E) P PX K (n + 1) 62 [l0, l1, l2, l3, l4, l5, l6] (.int x :: r) (σ, sz, k, c) = zk_run E (zk_VT E) M_X5_unitsAboveDwellings (C_X5_unitsAboveDwellings E) P PX K n 63 [l0, zk_kl l1, some (.int x), l3, l4, l5, l6] r (σ, sz, k, c)) ∧
  (∀ (n : Nat) (l0 l1 l2 l3 l4 l6 : Option Value) (y5 : Int32) (r : List Value) (σ : zk_S) (sz k c : Nat), zk_run E (zk_VT E) M_X5_unitsAboveDwellings (C_X5_unitsAboveDwellings E) P PX K (n + 1) 63 [l0, l1, l2, l3, l4, some (.int y5), l6] r (σ, sz, k, c) = zk_run E (zk_VT E) M_X5_unitsAboveDwellings (C_X5_unitsAboveDwellings E) P PX K n 66 [l0, l1, l2, l3, zk_kl l4, some (.int (y5 + 1)), l6] r (σ, sz, k, c)) ∧
  (∀ (n : Nat) (l0 l1 l2 l3 l4 l5 l6 : Option Value)  (r : List Value) (σ : zk_S) (sz k c : Nat), zk_run E (zk_VT E) M_X5_unitsAboveDwellings (C_X5_unitsAboveDwellings E) P PX K (n + 1) 66 [l0, l1, l2, l3, l4, l5, l6] r (σ, sz, k, c) = zk_run E (zk_VT E) M_X5_unitsAboveDwellings (C_X5_unitsAboveDwellings E) P PX K n 14 [l0, l1, l2, l3, l4, l5, l6] r (σ, sz, k, c)) ∧
  (∀ (n : Nat) (l0 l1 l3 l4 l5 l6 : Option Value) (y2 : Int32) (r : List Value) (σ : zk_S) (sz k c : Nat), zk_run E (zk_VT E) M_X5_unitsAboveDwellings (C_X5_unitsAboveDwellings E) P PX K (n + 1) 69 [l0, l1, some (.int y2), l3, l4, l5, l6] r (σ, sz, k, c) = zk_run E (zk_VT E) M_X5_unitsAboveDwellings (C_X5_unitsAboveDwellings E) P PX K n 70 [l0, l1, some (.int y2), l3, l4, l5, l6] (.int y2 :: r) (σ, sz, k, c)) ∧
  (∀ (n : Nat) (l0 l1 l2 l3 l4 l5 l6 : Option Value) (x : Int32)  (σ : zk_S) (sz k c : Nat), zk_run E (zk_VT E) M_X5_unitsAboveDwellings (C_X5_unitsAboveDwellings E) P PX K (n + 1) 70 [l0, l1, l2, l3, l4, l5, l6] [.int x] (σ, sz, k, c) = (zk_nok (some (.int)) x ∧ P (some (.int x)) σ sz ∧ k ≤ 0 ∧ c ≤ 0)) ∧
  (∀ (n : Nat) (l0 l1 l2 l3 l4 l5 l6 : Option Value) (r : List Value) (w : zk_W zk_S), zk_go E (zk_VT E) M_X5_unitsAboveDwellings (C_X5_unitsAboveDwellings E) P PX K n 0 [l0, l1, l2, l3, l4, l5, l6] r w = zk_run E (zk_VT E) M_X5_unitsAboveDwellings (C_X5_unitsAboveDwellings E) P PX K (n + 1) 0 [l0, l1, l2, l3, l4, l5, l6] r w) := ⟨by intros; rfl, by intros; rfl, by intros; rfl, by intros; rfl, by intros; rfl, by intros; rfl, by intros; rfl, by intros; rfl, by intros; rfl, by intros; rfl, by intros; rfl, by intros; rfl, by intros; rfl, by intros; rfl, by intros; rfl, by intros; rfl, by intros; rfl, by intros; rfl, by intros; rfl, by intros; rfl, by intros; rfl, by intros; rfl, by intros; rfl, by intros; rfl, by intros; rfl, by intros; rfl, by intros; rfl, by intros; rfl, by intros; rfl, by intros; rfl, by intros; rfl, by intros; rfl, by intros; rfl, by intros; rfl, by intros; rfl, by intros; rfl, by intros; rfl, by intros; rfl, by intros; rfl, by intros; rfl⟩
theorem r_X5_unitsAboveDwellings_1 (E : zk_E) (P : zk_P zk_S) (PX : zk_X zk_S) (K : Nat → zk_L → List Value → zk_W zk_S → Prop) : (∀ (n : Nat) (l0 l1 l2 l3 l4 l6 : Option Value) (y5 : Int32) (r : List Value) (σ : zk_S) (sz k c : Nat), zk_go E (zk_VT E) M_X5_unitsAboveDwellings (C_X5_unitsAboveDwellings E) P PX K n 14 [l0, l1, l2, l3, l4, some (.int y5), l6] r (σ, sz, k, c) = zk_run E (zk_VT E) M_X5_unitsAboveDwellings (C_X5_unitsAboveDwellings E) P PX K n 16 [l0, l1, l2, l3, l4, some (.int y5), l6] (.int y5 :: r) (σ, sz, k, c)) := by intros; rfl
theorem vc_X5_unitsAboveDwellings (E : zk_E) : zk_VC E (zk_VT E) M_X5_unitsAboveDwellings (C_X5_unitsAboveDwellings E) 7 (sp_X5_unitsAboveDwellings E) := by
  intro av σ sz P PX h
  obtain ⟨J, N, Q, O, U⟩ := σ
  unfold sp_X5_unitsAboveDwellings at h
  split at h
  case h_2 => exact h.elim
  rename_i a0 b
  obtain ⟨rfl, h⟩ := h
  refine ⟨Nat.le_of_ble_eq_true rfl, fun G hG => ?_⟩
  change G 0 [some (.ref (zk_ad E 1)), some (.ref b), none, none, none, none, none] [] ((J, N, Q, O, U), sz, 0, 0)
  try dsimp only at h
  obtain ⟨hr, hb, hB, h⟩ := h
  obtain ⟨b0, b1, b2, b3, b4, b5, b6, b7, hOb⟩ := id hB
  have c40 : Int32.ofNat 20 = nI 20 := rfl
  have gb : ∀ F : Value → Prop, zk_fld (O b) [5] 1 F = F (.int b1) := fun F => by rw [hOb]; simp [zk_fld_o, cR, zk_nth]
  have ib : ∀ k, zk_is (O b) k = (k 5 = true) := fun k => by rw [hOb]; rfl
  have fb1 : fI (O b) 1 = b1 := by rw [hOb]; rfl
  have loop : ∀ m i l4, i + m = 20 → G 14 [some (.ref (zk_ad E 1)), some (.ref b), some (.int (m_sum (r_wet Q O (O b)) i)), some (.ref (zk_ad E 2)), some (.int (nI 20)), some (.int (nI i)), l4] [] ((J, N, Q, O, U), sz, 0, 0) := by
    intro m
    induction m with
    | zero =>
      intro i l4 hi
      have c1 : nI 20 ≤ nI i := nI_le (by omega) (by omega)
      have ei : i = 20 := by omega
      subst ei
      (refine hG 900 _ _ _ _ ?_; simp only [r_X5_unitsAboveDwellings, r_X5_unitsAboveDwellings_1, c1])
      exact h
    | succ m ih =>
      intro i l4 hi
      have c1 : ¬ nI 20 ≤ nI i := nI_ge (by omega) (by omega)
      have ih2 := fun l4 => ih (i + 1) l4 (by omega)
      rw [m_sum] at ih2
      have hin : vp_in (nI i) 20 := n_in (by omega) (by decide)
      have hcl : (nI i).toNatClampNeg = i := n_cl (by omega)
      cases q : Q 2 i with
      | none =>
        have e0 : r_wet Q O (O b) i = 0 := by unfold r_wet; rw [q]
        rw [e0, Int32.add_zero] at ih2
        (refine hG 900 _ _ _ _ ?_; simp only [r_X5_unitsAboveDwellings, r_X5_unitsAboveDwellings_1, c1, hin, hcl, q, n_succ])
        exact ih2 _
      | some c =>
        obtain ⟨hc, hC⟩ := hr i (by omega) c q
        obtain ⟨a0, a1, a2, a3, a4, a5, a6, a7, hO⟩ := id hC
        have e0 : r_wet Q O (O b) i = if a6 = 0 ∧ a1 = b1 - 1 then m_cm (O b) (O c) else 0 := by
          have f6 : fI (O c) 6 = a6 := by rw [hO]; rfl
          have f1 : fI (O c) 1 = a1 := by rw [hO]; rfl
          unfold r_wet
          rw [q]
          dsimp only
          rw [f6, f1, fb1]
        rw [e0] at ih2
        have gc6 : ∀ F : Value → Prop, zk_fld (O c) [5] 6 F = F (.int a6) := fun F => by rw [hO]; simp [zk_fld_o, cR, zk_nth]
        have gc1 : ∀ F : Value → Prop, zk_fld (O c) [5] 1 F = F (.int a1) := fun F => by rw [hO]; simp [zk_fld_o, cR, zk_nth]
        by_cases z1 : a6 = 0
        · by_cases z2 : a1 = b1 - 1
          · rw [if_pos ⟨z1, z2⟩] at ih2
            (refine hG 900 _ _ _ _ ?_; simp only [r_X5_unitsAboveDwellings, r_X5_unitsAboveDwellings_1, c1, hin, hcl, q, zk_vd hc, zk_vd hb, gc6, gc1, gb, z1, z2, ib, spe_X6_unitsInCommon, hb, hB, hc, hC, n_succ])
            exact ih2 _
          · rw [if_neg (fun w => z2 w.2), Int32.add_zero] at ih2
            (refine hG 900 _ _ _ _ ?_; simp only [r_X5_unitsAboveDwellings, r_X5_unitsAboveDwellings_1, c1, hin, hcl, q, zk_vd hc, zk_vd hb, gc6, gc1, gb, z1, z2, n_succ])
            exact ih2 _
        · rw [if_neg (fun w => z1 w.1), Int32.add_zero] at ih2
          (refine hG 900 _ _ _ _ ?_; simp only [r_X5_unitsAboveDwellings, r_X5_unitsAboveDwellings_1, c1, hin, hcl, q, zk_vd hc, gc6, z1, n_succ])
          exact ih2 _
  have l0 := loop 20 0 none (by omega)
  (refine hG 900 _ _ _ _ ?_; simp only [r_X5_unitsAboveDwellings, r_X5_unitsAboveDwellings_1, c40])
  exact l0
theorem ct_X5_unitsAboveDwellings {l : Launch} (hl : l.stackTraces = false) (E : zk_E) : zk_C l E (zk_VT E) yX5_unitsAboveDwellings cX5_unitsAboveDwellings 7 (some (.int)) rm_X5_unitsAboveDwellings (sp_X5_unitsAboveDwellings E) := by
  refine zk_meth (M := M_X5_unitsAboveDwellings) (C := C_X5_unitsAboveDwellings E) hl (by decide +kernel) rfl (fun _ _ => rfl) (zk_VT_ok E) MO_X5_unitsAboveDwellings TO_X5_unitsAboveDwellings THo_X5_unitsAboveDwellings ?_ (vc_X5_unitsAboveDwellings E)
  exact fun p e s m args below meth c X pc n mc ms sp2 h => by
    have h2 := zk_lka_mem h
    simp only [List.mem_cons, List.not_mem_nil, or_false, Prod.mk.injEq] at h2
    rcases h2 with ⟨rfl, rfl, rfl, rfl, rfl⟩
    exact zk_coV (idx := 81) X (ct_X6_unitsInCommon hl E) (List.forall_mem_cons.mpr ⟨zk_wi 219 (by decide +kernel) rfl, List.forall_mem_cons.mpr ⟨zk_wi 220 (by decide +kernel) rfl, List.forall_mem_cons.mpr ⟨zk_wi 221 (by decide +kernel) rfl, List.forall_mem_cons.mpr ⟨zk_wi 12 (by decide +kernel) rfl, List.forall_mem_cons.mpr ⟨zk_wi 222 (by decide +kernel) rfl, fun _ h => absurd h List.not_mem_nil⟩⟩⟩⟩⟩) (fun ci h => by
      have h := Nat.eq_of_beq_eq_true h
      subst h
      exact ⟨_, _, rfl⟩) (by decide +kernel) ⟨by decide, by decide, by decide +kernel⟩ ⟨by decide, by decide⟩
def r_hit (Q : Nat → Nat → Option Nat) (O : zk_Hp) (o : Option va_E) (r : Nat) : Bool := match Q 2 r with
  | some a => decide (fI (O a) 1 = fI o 1) && decide (0 < m_cm (O a) o)
  | none => false
def sp_X5_isInTheWay (E : zk_E) : zk_Sp zk_S := fun av σ sz P PX => match av with
  | [.ref a, .ref b] => a = zk_ad E 1 ∧ ROK E σ.2.2.1 σ.2.2.2.1 ∧ E.1 + 28 ≤ b ∧ isR (σ.2.2.2.1 b) ∧ P (some (.int (zk_b (m_ex (r_hit σ.2.2.1 σ.2.2.2.1 (σ.2.2.2.1 b)) 20)))) σ sz
  | _ => False
theorem spe_X5_isInTheWay (E : zk_E) (a : Nat) (b : Nat) (σ : zk_S) (sz : Nat) (P : zk_P zk_S) (PX : zk_X zk_S) : sp_X5_isInTheWay E [.ref a, .ref b] σ sz P PX = (a = zk_ad E 1 ∧ ROK E σ.2.2.1 σ.2.2.2.1 ∧ E.1 + 28 ≤ b ∧ isR (σ.2.2.2.1 b) ∧ P (some (.int (zk_b (m_ex (r_hit σ.2.2.1 σ.2.2.2.1 (σ.2.2.2.1 b)) 20)))) σ sz) := propext Iff.rfl
def C_X5_isInTheWay (E : zk_E) : zk_Cl zk_S := zk_lka [(43, 2, 0, 0, zk_rv (zk_VT E) (fun ci => Nat.beq ci 5) (sp_X6_unitsInCommon E))]
theorem r_X5_isInTheWay (E : zk_E) (P : zk_P zk_S) (PX : zk_X zk_S) (K : Nat → zk_L → List Value → zk_W zk_S → Prop) : (∀ (n : Nat) (l1 l2 l3 l4 l5 : Option Value) (y0 : Value) (r : List Value) (σ : zk_S) (sz k c : Nat), zk_run E (zk_VT E) M_X5_isInTheWay (C_X5_isInTheWay E) P PX K (n + 1) 0 [some y0, l1, l2, l3, l4, l5] r (σ, sz, k, c) = (zk_isr y0 ∧ zk_run E (zk_VT E) M_X5_isInTheWay (C_X5_isInTheWay E) P PX K n 1 [some y0, l1, l2, l3, l4, l5] (y0 :: r) (σ, sz, k, c))) ∧
  (∀ (n : Nat) (l0 l1 l2 l3 l4 l5 : Option Value) (a : Nat) (r : List Value) (σ : zk_S) (sz k c : Nat), zk_run E (zk_VT E) M_X5_isInTheWay (C_X5_isInTheWay E) P PX K (n + 1) 1 [l0, l1, l2, l3, l4, l5] (.ref a :: r) (σ, sz, k, c) = zk_fld (zk_view E σ a) [4] 0 (fun v => zk_run E (zk_VT E) M_X5_isInTheWay (C_X5_isInTheWay E) P PX K n 4 [l0, l1, l2, l3, l4, l5] (v :: r) (σ, sz, k, c))) ∧
  (∀ (n : Nat) (l0 l1 l2 l3 l4 l5 : Option Value) (x : Value) (r : List Value) (σ : zk_S) (sz k c : Nat), zk_run E (zk_VT E) M_X5_isInTheWay (C_X5_isInTheWay E) P PX K (n + 1) 4 [l0, l1, l2, l3, l4, l5] (x :: r) (σ, sz, k, c) = (zk_isr x ∧ zk_run E (zk_VT E) M_X5_isInTheWay (C_X5_isInTheWay E) P PX K n 5 [l0, zk_kl l1, some (x), l3, l4, l5] r (σ, sz, k, c))) ∧
  (∀ (n : Nat) (l0 l1 l3 l4 l5 : Option Value) (y2 : Value) (r : List Value) (σ : zk_S) (sz k c : Nat), zk_run E (zk_VT E) M_X5_isInTheWay (C_X5_isInTheWay E) P PX K (n + 1) 5 [l0, l1, some y2, l3, l4, l5] r (σ, sz, k, c) = (zk_isr y2 ∧ zk_run E (zk_VT E) M_X5_isInTheWay (C_X5_isInTheWay E) P PX K n 6 [l0, l1, some y2, l3, l4, l5] (y2 :: r) (σ, sz, k, c))) ∧
  (∀ (n : Nat) (l0 l1 l2 l3 l4 l5 : Option Value) (a : Nat) (r : List Value) (σ : zk_S) (sz k c : Nat), zk_run E (zk_VT E) M_X5_isInTheWay (C_X5_isInTheWay E) P PX K (n + 1) 6 [l0, l1, l2, l3, l4, l5] (.ref a :: r) (σ, sz, k, c) = zk_lenq E (zk_view E σ a) (fun x => zk_run E (zk_VT E) M_X5_isInTheWay (C_X5_isInTheWay E) P PX K n 7 [l0, l1, l2, l3, l4, l5] (.int x :: r) (σ, sz, k, c))) ∧
  (∀ (n : Nat) (l0 l1 l2 l3 l4 l5 : Option Value) (x : Int32) (r : List Value) (σ : zk_S) (sz k c : Nat), zk_run E (zk_VT E) M_X5_isInTheWay (C_X5_isInTheWay E) P PX K (n + 1) 7 [l0, l1, l2, l3, l4, l5] (.int x :: r) (σ, sz, k, c) = zk_run E (zk_VT E) M_X5_isInTheWay (C_X5_isInTheWay E) P PX K n 8 [l0, l1, zk_kl l2, some (.int x), l4, l5] r (σ, sz, k, c)) ∧
  (∀ (n : Nat) (l0 l1 l2 l3 l4 l5 : Option Value)  (r : List Value) (σ : zk_S) (sz k c : Nat), zk_run E (zk_VT E) M_X5_isInTheWay (C_X5_isInTheWay E) P PX K (n + 1) 8 [l0, l1, l2, l3, l4, l5] r (σ, sz, k, c) = zk_run E (zk_VT E) M_X5_isInTheWay (C_X5_isInTheWay E) P PX K n 9 [l0, l1, l2, l3, l4, l5] (.int (0) :: r) (σ, sz, k, c)) ∧
  (∀ (n : Nat) (l0 l1 l2 l3 l4 l5 : Option Value) (x : Int32) (r : List Value) (σ : zk_S) (sz k c : Nat), zk_run E (zk_VT E) M_X5_isInTheWay (C_X5_isInTheWay E) P PX K (n + 1) 9 [l0, l1, l2, l3, l4, l5] (.int x :: r) (σ, sz, k, c) = zk_run E (zk_VT E) M_X5_isInTheWay (C_X5_isInTheWay E) P PX K n 11 [l0, l1, l2, zk_kl l3, some (.int x), l5] r (σ, sz, k, c)) ∧
  (∀ (n : Nat) (l0 l1 l2 l3 l4 l5 : Option Value)  (r : List Value) (σ : zk_S) (sz k c : Nat), zk_run E (zk_VT E) M_X5_isInTheWay (C_X5_isInTheWay E) P PX K (n + 1) 11 [l0, l1, l2, l3, l4, l5] r (σ, sz, k, c) = K 11 [l0, l1, l2, l3, l4, l5] r (σ, sz, k, c)) ∧
  (∀ (n : Nat) (l0 l1 l2 l4 l5 : Option Value) (y3 : Int32) (r : List Value) (σ : zk_S) (sz k c : Nat), zk_run E (zk_VT E) M_X5_isInTheWay (C_X5_isInTheWay E) P PX K (n + 1) 13 [l0, l1, l2, some (.int y3), l4, l5] r (σ, sz, k, c) = zk_run E (zk_VT E) M_X5_isInTheWay (C_X5_isInTheWay E) P PX K n 14 [l0, l1, l2, some (.int y3), l4, l5] (.int y3 :: r) (σ, sz, k, c)) ∧
  (∀ (n : Nat) (l0 l1 l2 l3 l4 l5 : Option Value) (x y : Int32) (r : List Value) (σ : zk_S) (sz k c : Nat), zk_run E (zk_VT E) M_X5_isInTheWay (C_X5_isInTheWay E) P PX K (n + 1) 14 [l0, l1, l2, l3, l4, l5] (.int y :: .int x :: r) (σ, sz, k, c) = ((y ≤ x → zk_run E (zk_VT E) M_X5_isInTheWay (C_X5_isInTheWay E) P PX K n 57 [l0, l1, l2, l3, l4, l5] r (σ, sz, k, c)) ∧ (¬ (y ≤ x) → zk_run E (zk_VT E) M_X5_isInTheWay (C_X5_isInTheWay E) P PX K n 17 [l0, l1, l2, l3, l4, l5] r (σ, sz, k, c)))) ∧
  (∀ (n : Nat) (l0 l1 l3 l4 l5 : Option Value) (y2 : Value) (r : List Value) (σ : zk_S) (sz k c : Nat), zk_run E (zk_VT E) M_X5_isInTheWay (C_X5_isInTheWay E) P PX K (n + 1) 17 [l0, l1, some y2, l3, l4, l5] r (σ, sz, k, c) = (zk_isr y2 ∧ zk_run E (zk_VT E) M_X5_isInTheWay (C_X5_isInTheWay E) P PX K n 18 [l0, l1, some y2, l3, l4, l5] (y2 :: r) (σ, sz, k, c))) ∧
  (∀ (n : Nat) (l0 l1 l2 l3 l5 : Option Value) (y4 : Int32) (r : List Value) (σ : zk_S) (sz k c : Nat), zk_run E (zk_VT E) M_X5_isInTheWay (C_X5_isInTheWay E) P PX K (n + 1) 18 [l0, l1, l2, l3, some (.int y4), l5] r (σ, sz, k, c) = zk_run E (zk_VT E) M_X5_isInTheWay (C_X5_isInTheWay E) P PX K n 20 [l0, l1, l2, l3, some (.int y4), l5] (.int y4 :: r) (σ, sz, k, c)) ∧
  (∀ (n : Nat) (l0 l1 l2 l3 l4 l5 : Option Value) (a : Nat) (i : Int32) (r : List Value) (σ : zk_S) (sz k c : Nat), zk_run E (zk_VT E) M_X5_isInTheWay (C_X5_isInTheWay E) P PX K (n + 1) 20 [l0, l1, l2, l3, l4, l5] (.int i :: .ref a :: r) (σ, sz, k, c) = zk_qld (zk_view E σ a) i [zk_ar E 3, zk_ar E 4, zk_ar E 5, zk_ar E 6, zk_ar E 7] (fun x => (x = none → zk_run E (zk_VT E) M_X5_isInTheWay (C_X5_isInTheWay E) P PX K n 21 [l0, l1, l2, l3, l4, l5] (.null :: r) (σ, sz, k, c)) ∧ ∀ b, x = some b → zk_run E (zk_VT E) M_X5_isInTheWay (C_X5_isInTheWay E) P PX K n 21 [l0, l1, l2, l3, l4, l5] (.ref b :: r) (σ, sz, k, c))) ∧
  (∀ (n : Nat) (l0 l1 l2 l3 l4 l5 : Option Value) (x : Value) (r : List Value) (σ : zk_S) (sz k c : Nat), zk_run E (zk_VT E) M_X5_isInTheWay (C_X5_isInTheWay E) P PX K (n + 1) 21 [l0, l1, l2, l3, l4, l5] (x :: r) (σ, sz, k, c) = (zk_isr x ∧ zk_run E (zk_VT E) M_X5_isInTheWay (C_X5_isInTheWay E) P PX K n 23 [l0, l1, l2, l3, zk_kl l4, some (x)] r (σ, sz, k, c))) ∧
  (∀ (n : Nat) (l0 l1 l2 l3 l4 : Option Value) (y5 : Value) (r : List Value) (σ : zk_S) (sz k c : Nat), zk_run E (zk_VT E) M_X5_isInTheWay (C_X5_isInTheWay E) P PX K (n + 1) 23 [l0, l1, l2, l3, l4, some y5] r (σ, sz, k, c) = (zk_isr y5 ∧ zk_run E (zk_VT E) M_X5_isInTheWay (C_X5_isInTheWay E) P PX K n 25 [l0, l1, l2, l3, l4, some y5] (y5 :: r) (σ, sz, k, c))) ∧
  (∀ (n : Nat) (l0 l1 l2 l3 l4 l5 : Option Value) (v : Value) (r : List Value) (σ : zk_S) (sz k c : Nat), zk_run E (zk_VT E) M_X5_isInTheWay (C_X5_isInTheWay E) P PX K (n + 1) 25 [l0, l1, l2, l3, l4, l5] (v :: r) (σ, sz, k, c) = (zk_isr v ∧ (v = .null → zk_run E (zk_VT E) M_X5_isInTheWay (C_X5_isInTheWay E) P PX K n 51 [l0, l1, l2, l3, l4, l5] r (σ, sz, k, c)) ∧ (¬ (v = .null) → zk_run E (zk_VT E) M_X5_isInTheWay (C_X5_isInTheWay E) P PX K n 28 [l0, l1, l2, l3, l4, l5] r (σ, sz, k, c)))) ∧
  (∀ (n : Nat) (l0 l1 l2 l3 l4 : Option Value) (y5 : Value) (r : List Value) (σ : zk_S) (sz k c : Nat), zk_run E (zk_VT E) M_X5_isInTheWay (C_X5_isInTheWay E) P PX K (n + 1) 28 [l0, l1, l2, l3, l4, some y5] r (σ, sz, k, c) = (zk_isr y5 ∧ zk_run E (zk_VT E) M_X5_isInTheWay (C_X5_isInTheWay E) P PX K n 30 [l0, l1, l2, l3, l4, some y5] (y5 :: r) (σ, sz, k, c))) ∧
  (∀ (n : Nat) (l0 l1 l2 l3 l4 l5 : Option Value) (a : Nat) (r : List Value) (σ : zk_S) (sz k c : Nat), zk_run E (zk_VT E) M_X5_isInTheWay (C_X5_isInTheWay E) P PX K (n + 1) 30 [l0, l1, l2, l3, l4, l5] (.ref a :: r) (σ, sz, k, c) = zk_fld (zk_view E σ a) [5] 1 (fun v => zk_run E (zk_VT E) M_X5_isInTheWay (C_X5_isInTheWay E) P PX K n 33 [l0, l1, l2, l3, l4, l5] (v :: r) (σ, sz, k, c))) ∧
  (∀ (n : Nat) (l0 l2 l3 l4 l5 : Option Value) (y1 : Value) (r : List Value) (σ : zk_S) (sz k c : Nat), zk_run E (zk_VT E) M_X5_isInTheWay (C_X5_isInTheWay E) P PX K (n + 1) 33 [l0, some y1, l2, l3, l4, l5] r (σ, sz, k, c) = (zk_isr y1 ∧ zk_run E (zk_VT E) M_X5_isInTheWay (C_X5_isInTheWay E) P PX K n 34 [l0, some y1, l2, l3, l4, l5] (y1 :: r) (σ, sz, k, c))) ∧
  (∀ (n : Nat) (l0 l1 l2 l3 l4 l5 : Option Value) (a : Nat) (r : List Value) (σ : zk_S) (sz k c : Nat), zk_run E (zk_VT E) M_X5_isInTheWay (C_X5_isInTheWay E) P PX K (n + 1) 34 [l0, l1, l2, l3, l4, l5] (.ref a :: r) (σ, sz, k, c) = zk_fld (zk_view E σ a) [5] 1 (fun v => zk_run E (zk_VT E) M_X5_isInTheWay (C_X5_isInTheWay E) P PX K n 37 [l0, l1, l2, l3, l4, l5] (v :: r) (σ, sz, k, c))) ∧
  (∀ (n : Nat) (l0 l1 l2 l3 l4 l5 : Option Value) (x y : Int32) (r : List Value) (σ : zk_S) (sz k c : Nat), zk_run E (zk_VT E) M_X5_isInTheWay (C_X5_isInTheWay E) P PX K (n + 1) 37 [l0, l1, l2, l3, l4, l5] (.int y :: .int x :: r) (σ, sz, k, c) = ((¬ x = y → zk_run E (zk_VT E) M_X5_isInTheWay (C_X5_isInTheWay E) P PX K n 51 [l0, l1, l2, l3, l4, l5] r (σ, sz, k, c)) ∧ (¬ (¬ x = y) → zk_run E (zk_VT E) M_X5_isInTheWay (C_X5_isInTheWay E) P PX K n 40 [l0, l1, l2, l3, l4, l5] r (σ, sz, k, c)))) ∧
  (∀ (n : Nat) (l0 l1 l2 l3 l4 : Option Value) (y5 : Value) (r : List Value) (σ : zk_S) (sz k c : Nat), zk_run E (zk_VT E) M_X5_isInTheWay (C_X5_isInTheWay E) P PX K (n + 1) 40 [l0, l1, l2, l3, l4, some y5] r (σ, sz, k, c) = (zk_isr y5 ∧ zk_run E (zk_VT E) M_X5_isInTheWay (C_X5_isInTheWay E) P PX K n 42 [l0, l1, l2, l3, l4, some y5] (y5 :: r) (σ, sz, k, c))) ∧
  (∀ (n : Nat) (l0 l2 l3 l4 l5 : Option Value) (y1 : Value) (r : List Value) (σ : zk_S) (sz k c : Nat), zk_run E (zk_VT E) M_X5_isInTheWay (C_X5_isInTheWay E) P PX K (n + 1) 42 [l0, some y1, l2, l3, l4, l5] r (σ, sz, k, c) = (zk_isr y1 ∧ zk_run E (zk_VT E) M_X5_isInTheWay (C_X5_isInTheWay E) P PX K n 43 [l0, some y1, l2, l3, l4, l5] (y1 :: r) (σ, sz, k, c))) ∧
  (∀ (n : Nat) (l0 l1 l2 l3 l4 l5 : Option Value) (v0 : Value) (v1 : Value)  (σ : zk_S) (sz k c : Nat), zk_run E (zk_VT E) M_X5_isInTheWay (C_X5_isInTheWay E) P PX K (n + 1) 43 [l0, l1, l2, l3, l4, l5] [v0, v1] (σ, sz, k, c) = (k + 0 ≤ 0 ∧ c + 0 ≤ 0 ∧ (zk_rv (zk_VT E) (fun ci => Nat.beq ci 5) (sp_X6_unitsInCommon E)) [v1, v0] σ sz (fun v s2 z2 => zk_run E (zk_VT E) M_X5_isInTheWay (C_X5_isInTheWay E) P PX K n 46 [l0, l1, l2, l3, l4, l5] (zk_psh v []) (s2, z2, k + 0, c + 0)) (fun X s2 z2 => PX X s2 z2))) ∧
  (∀ (n : Nat) (l0 l1 l2 l3 l4 l5 : Option Value) (x : Int32) (r : List Value) (σ : zk_S) (sz k c : Nat), zk_run E (zk_VT E) M_X5_isInTheWay (C_X5_isInTheWay E) P PX K (n + 1) 46 [l0, l1, l2, l3, l4, l5] (.int x :: r) (σ, sz, k, c) = ((x ≤ 0 → zk_run E (zk_VT E) M_X5_isInTheWay (C_X5_isInTheWay E) P PX K n 51 [l0, l1, l2, l3, l4, l5] r (σ, sz, k, c)) ∧ (¬ (x ≤ 0) → zk_run E (zk_VT E) M_X5_isInTheWay (C_X5_isInTheWay E) P PX K n 49 [l0, l1, l2, l3, l4, l5] r (σ, sz, k, c)))) ∧
  (∀ (n : Nat) (l0 l1 l2 l3 l4 l5 : Option Value)  (r : List Value) (σ : zk_S) (sz k c : Nat), zk_run E (zk_VT E) M_X5_isInTheWay (C_X5_isInTheWay E) P PX K (n + 1) 49 [l0, l1, l2, l3, l4, l5] r (σ, sz, k, c) = zk_run E (zk_VT E) M_X5_isInTheWay (C_X5_isInTheWay E) P PX K n 50 [l0, l1, l2, l3, l4, l5] (.int (1) :: r) (σ, sz, k, c)) ∧
  (∀ (n : Nat) (l0 l1 l2 l3 l4 l5 : Option Value) (x : Int32)  (σ : zk_S) (sz k c : Nat), zk_run E (zk_VT E) M_X5_isInTheWay (C_X5_isInTheWay E) P PX K (n + 1) 50 [l0, l1, l2, l3, l4, l5] [.int x] (σ, sz, k, c) = (zk_nok (some (.boolean)) x ∧ P (some (.int x)) σ sz ∧ k ≤ 0 ∧ c ≤ 0)) ∧
  (∀ (n : Nat) (l0 l1 l2 l3 l5 : Option Value) (y4 : Int32) (r : List Value) (σ : zk_S) (sz k c : Nat), zk_run E (zk_VT E) M_X5_isInTheWay (C_X5_isInTheWay E) P PX K (n + 1) 51 [l0, l1, l2, l3, some (.int y4), l5] r (σ, sz, k, c) = zk_run E (zk_VT E) M_X5_isInTheWay (C_X5_isInTheWay E) P PX K n 54 [l0, l1, l2, zk_kl l3, some (.int (y4 + 1)), l5] r (σ, sz, k, c)) ∧
  (∀ (n : Nat) (l0 l1 l2 l3 l4 l5 : Option Value)  (r : List Value) (σ : zk_S) (sz k c : Nat), zk_run E (zk_VT E) M_X5_isInTheWay (C_X5_isInTheWay E) P PX K (n + 1) 54 [l0, l1, l2, l3, l4, l5] r (σ, sz, k, c) = zk_run E (zk_VT E) M_X5_isInTheWay (C_X5_isInTheWay E) P PX K n 11 [l0, l1, l2, l3, l4, l5] r (σ, sz, k, c)) ∧
  (∀ (n : Nat) (l0 l1 l2 l3 l4 l5 : Option Value)  (r : List Value) (σ : zk_S) (sz k c : Nat), zk_run E (zk_VT E) M_X5_isInTheWay (C_X5_isInTheWay E) P PX K (n + 1) 57 [l0, l1, l2, l3, l4, l5] r (σ, sz, k, c) = zk_run E (zk_VT E) M_X5_isInTheWay (C_X5_isInTheWay E) P PX K n 58 [l0, l1, l2, l3, l4, l5] (.int (0) :: r) (σ, sz, k, c)) ∧
  (∀ (n : Nat) (l0 l1 l2 l3 l4 l5 : Option Value) (x : Int32)  (σ : zk_S) (sz k c : Nat), zk_run E (zk_VT E) M_X5_isInTheWay (C_X5_isInTheWay E) P PX K (n + 1) 58 [l0, l1, l2, l3, l4, l5] [.int x] (σ, sz, k, c) = (zk_nok (some (.boolean)) x ∧ P (some (.int x)) σ sz ∧ k ≤ 0 ∧ c ≤ 0)) ∧
  (∀ (n : Nat) (l0 l1 l2 l3 l4 l5 : Option Value) (r : List Value) (w : zk_W zk_S), zk_go E (zk_VT E) M_X5_isInTheWay (C_X5_isInTheWay E) P PX K n 0 [l0, l1, l2, l3, l4, l5] r w = zk_run E (zk_VT E) M_X5_isInTheWay (C_X5_isInTheWay E) P PX K (n + 1) 0 [l0, l1, l2, l3, l4, l5] r w) ∧
  (∀ (n : Nat) (l0 l1 l2 l3 l5 : Option Value) (y4 : Int32) (r : List Value) (σ : zk_S) (sz k c : Nat), zk_go E (zk_VT E) M_X5_isInTheWay (C_X5_isInTheWay E) P PX K n 11 [l0, l1, l2, l3, some (.int y4), l5] r (σ, sz, k, c) = zk_run E (zk_VT E) M_X5_isInTheWay (C_X5_isInTheWay E) P PX K n 13 [l0, l1, l2, l3, some (.int y4), l5] (.int y4 :: r) (σ, sz, k, c)) := ⟨by intros; rfl, by intros; rfl, by intros; rfl, by intros; rfl, by intros; rfl, by intros; rfl, by intros; rfl, by intros; rfl, by intros; rfl, by intros; rfl, by intros; rfl, by intros; rfl, by intros; rfl, by intros; rfl, by intros; rfl, by intros; rfl, by intros; rfl, by intros; rfl, by intros; rfl, by intros; rfl, by intros; rfl, by intros; rfl, by intros; rfl, by intros; rfl, by intros; rfl, by intros; rfl, by intros; rfl, by intros; rfl, by intros; rfl, by intros; rfl, by intros; rfl, by intros; rfl, by intros; rfl, by intros; rfl⟩
theorem vc_X5_isInTheWay (E : zk_E) : zk_VC E (zk_VT E) M_X5_isInTheWay (C_X5_isInTheWay E) 6 (sp_X5_isInTheWay E) := by
  intro av σ sz P PX h
  obtain ⟨J, N, Q, O, U⟩ := σ
  unfold sp_X5_isInTheWay at h
  split at h
  case h_2 => exact h.elim
  rename_i a0 b
  obtain ⟨rfl, h⟩ := h
  refine ⟨Nat.le_of_ble_eq_true rfl, fun G hG => ?_⟩
  change G 0 [some (.ref (zk_ad E 1)), some (.ref b), none, none, none, none] [] ((J, N, Q, O, U), sz, 0, 0)
  try dsimp only at h
  obtain ⟨hr, hb, hB, h⟩ := h
  obtain ⟨b0, b1, b2, b3, b4, b5, b6, b7, hOb⟩ := id hB
  have c40 : Int32.ofNat 20 = nI 20 := rfl
  have gb : ∀ F : Value → Prop, zk_fld (O b) [5] 1 F = F (.int b1) := fun F => by rw [hOb]; simp [zk_fld_o, cR, zk_nth]
  have fb1 : fI (O b) 1 = b1 := by rw [hOb]; rfl
  have loop : ∀ m i l4, i + m = 20 → m_ex (r_hit Q O (O b)) i = false → G 11 [some (.ref (zk_ad E 1)), some (.ref b), some (.ref (zk_ad E 2)), some (.int (nI 20)), some (.int (nI i)), l4] [] ((J, N, Q, O, U), sz, 0, 0) := by
    intro m
    induction m with
    | zero =>
      intro i l4 hi hn
      have c1 : nI 20 ≤ nI i := nI_le (by omega) (by omega)
      have ei : i = 20 := by omega
      subst ei
      rw [hn] at h
      (refine hG 900 _ _ _ _ ?_; simp only [r_X5_isInTheWay, c1])
      exact h
    | succ m ih =>
      intro i l4 hi hn
      have c1 : ¬ nI 20 ≤ nI i := nI_ge (by omega) (by omega)
      have ih2 := fun (w : r_hit Q O (O b) i = false) l4 => ih (i + 1) l4 (by omega) (by rw [m_ex, hn, w]; rfl)
      have hw : r_hit Q O (O b) i = true → P (some (.int 1)) (J, N, Q, O, U) sz := fun w => by
        rw [m_ex_true w (by omega)] at h
        exact h
      have hin : vp_in (nI i) 20 := n_in (by omega) (by decide)
      have hcl : (nI i).toNatClampNeg = i := n_cl (by omega)
      cases q : Q 2 i with
      | none =>
        have ih3 := ih2 (by unfold r_hit; rw [q])
        (refine hG 900 _ _ _ _ ?_; simp only [r_X5_isInTheWay, c1, hin, hcl, q, n_succ])
        exact ih3 _
      | some c =>
        obtain ⟨hc, hC⟩ := hr i (by omega) c q
        obtain ⟨a0, a1, a2, a3, a4, a5, a6, a7, hO⟩ := id hC
        have e0 : r_hit Q O (O b) i = (decide (a1 = b1) && decide (0 < m_cm (O c) (O b))) := by
          have f1 : fI (O c) 1 = a1 := by rw [hO]; rfl
          unfold r_hit
          rw [q]
          dsimp only
          rw [f1, fb1]
        rw [e0] at ih2 hw
        have gc1 : ∀ F : Value → Prop, zk_fld (O c) [5] 1 F = F (.int a1) := fun F => by rw [hO]; simp [zk_fld_o, cR, zk_nth]
        have ic : ∀ k, zk_is (O c) k = (k 5 = true) := fun k => by rw [hO]; rfl
        by_cases z1 : a1 = b1
        · by_cases z2 : 0 < m_cm (O c) (O b)
          · have z3 := Int32.not_le.mpr z2
            have h3 := hw (by rw [decide_eq_true z1, decide_eq_true z2]; rfl)
            (refine hG 900 _ _ _ _ ?_; simp only [r_X5_isInTheWay, c1, hin, hcl, q, zk_vd hc, zk_vd hb, gc1, gb, z1, ic, spe_X6_unitsInCommon, hb, hB, hc, hC, z3, n_succ])
            exact h3
          · have z3 := Int32.not_lt.mp z2
            have h3 := ih2 (by rw [decide_eq_false z2, Bool.and_false])
            (refine hG 900 _ _ _ _ ?_; simp only [r_X5_isInTheWay, c1, hin, hcl, q, zk_vd hc, zk_vd hb, gc1, gb, z1, ic, spe_X6_unitsInCommon, hb, hB, hc, hC, z3, n_succ])
            exact h3 _
        · have h3 := ih2 (by rw [decide_eq_false z1, Bool.false_and])
          (refine hG 900 _ _ _ _ ?_; simp only [r_X5_isInTheWay, c1, hin, hcl, q, zk_vd hc, zk_vd hb, gc1, gb, z1, n_succ])
          exact h3 _
  have l0 := loop 20 0 none (by omega) rfl
  (refine hG 900 _ _ _ _ ?_; simp only [r_X5_isInTheWay, c40])
  exact l0
theorem ct_X5_isInTheWay {l : Launch} (hl : l.stackTraces = false) (E : zk_E) : zk_C l E (zk_VT E) yX5_isInTheWay cX5_isInTheWay 6 (some (.boolean)) rm_X5_isInTheWay (sp_X5_isInTheWay E) := by
  refine zk_meth (M := M_X5_isInTheWay) (C := C_X5_isInTheWay E) hl (by decide +kernel) rfl (fun _ _ => rfl) (zk_VT_ok E) MO_X5_isInTheWay TO_X5_isInTheWay THo_X5_isInTheWay ?_ (vc_X5_isInTheWay E)
  exact fun p e s m args below meth c X pc n mc ms sp2 h => by
    have h2 := zk_lka_mem h
    simp only [List.mem_cons, List.not_mem_nil, or_false, Prod.mk.injEq] at h2
    rcases h2 with ⟨rfl, rfl, rfl, rfl, rfl⟩
    exact zk_coV (idx := 81) X (ct_X6_unitsInCommon hl E) (List.forall_mem_cons.mpr ⟨zk_wi 219 (by decide +kernel) rfl, List.forall_mem_cons.mpr ⟨zk_wi 220 (by decide +kernel) rfl, List.forall_mem_cons.mpr ⟨zk_wi 221 (by decide +kernel) rfl, List.forall_mem_cons.mpr ⟨zk_wi 12 (by decide +kernel) rfl, List.forall_mem_cons.mpr ⟨zk_wi 222 (by decide +kernel) rfl, fun _ h => absurd h List.not_mem_nil⟩⟩⟩⟩⟩) (fun ci h => by
      have h := Nat.eq_of_beq_eq_true h
      subst h
      exact ⟨_, _, rfl⟩) (by decide +kernel) ⟨by decide, by decide, by decide +kernel⟩ ⟨by decide, by decide⟩


