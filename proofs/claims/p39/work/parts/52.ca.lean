/-! the class: its objects' cells; rooms, pieces, exits -/
def cR (a b c d e f g h : Int32) : va_E := .inr (5, [.int a, .int b, .int c, .int d, .int e, .int f, .int g, .int h])
def cP (a b c d e : Int32) : va_E := .inr (3, [.int a, .int b, .int c, .int d, .int e])
def cX (ci : Nat) (f t : Option Nat) (mx my ln fw sh : Int32) (rest : List Value) : va_E := .inr (ci, va_rf f :: va_rf t :: .int mx :: .int my :: .int ln :: .int fw :: .int sh :: rest)
def cW (r p : Nat) : va_E := .inr (8, [.ref r, .ref p])
def isR (o : Option va_E) : Prop := ∃ a b c d e f g h, o = some (cR a b c d e f g h)
def isP (o : Option va_E) : Prop := ∃ a b c d e, o = some (cP a b c d e)
def isX (o : Option va_E) : Prop := ∃ ci f t mx my ln fw sh rest, (ci = 1 ∨ ci = 6) ∧ o = some (cX ci f t mx my ln fw sh rest)
def isD (o : Option va_E) : Prop := ∃ f t mx my ln fw sh rest, o = some (cX 1 f t mx my ln fw sh rest)
def fV (o : Option va_E) (k : Nat) : Value := match o with
  | some (.inr (_, fs)) => fs.getD k .null
  | _ => .null
def fI (o : Option va_E) (k : Nat) : Int32 := match fV o k with
  | .int x => x
  | _ => 0
def fR (o : Option va_E) (k : Nat) : Option Nat := match fV o k with
  | .ref x => some x
  | _ => none
theorem fI_R (a b c d e f g h : Int32) : fI (some (cR a b c d e f g h)) 0 = a ∧ fI (some (cR a b c d e f g h)) 1 = b ∧ fI (some (cR a b c d e f g h)) 2 = c ∧ fI (some (cR a b c d e f g h)) 3 = d ∧ fI (some (cR a b c d e f g h)) 4 = e ∧ fI (some (cR a b c d e f g h)) 5 = f ∧ fI (some (cR a b c d e f g h)) 6 = g ∧ fI (some (cR a b c d e f g h)) 7 = h := ⟨rfl, rfl, rfl, rfl, rfl, rfl, rfl, rfl⟩
theorem fI_P (a b c d e : Int32) : fI (some (cP a b c d e)) 0 = a ∧ fI (some (cP a b c d e)) 1 = b ∧ fI (some (cP a b c d e)) 2 = c ∧ fI (some (cP a b c d e)) 3 = d ∧ fI (some (cP a b c d e)) 4 = e := ⟨rfl, rfl, rfl, rfl, rfl⟩
theorem fI_X (ci : Nat) (f t : Option Nat) (mx my ln fw sh : Int32) (rest : List Value) : fI (some (cX ci f t mx my ln fw sh rest)) 2 = mx ∧ fI (some (cX ci f t mx my ln fw sh rest)) 3 = my ∧ fI (some (cX ci f t mx my ln fw sh rest)) 4 = ln ∧ fI (some (cX ci f t mx my ln fw sh rest)) 5 = fw ∧ fI (some (cX ci f t mx my ln fw sh rest)) 6 = sh := ⟨rfl, rfl, rfl, rfl, rfl⟩
theorem fR_rf (f : Option Nat) : (match va_rf f with
  | .ref x => some x
  | _ => none) = f := by cases f <;> rfl
theorem fR_X (ci : Nat) (f t : Option Nat) (mx my ln fw sh : Int32) (rest : List Value) : fR (some (cX ci f t mx my ln fw sh rest)) 0 = f ∧ fR (some (cX ci f t mx my ln fw sh rest)) 1 = t := ⟨by cases f <;> rfl, by cases t <;> rfl⟩
theorem isR_c (a b c d e f g h : Int32) : isR (some (cR a b c d e f g h)) = True := eq_true ⟨a, b, c, d, e, f, g, h, rfl⟩
theorem isP_c (a b c d e : Int32) : isP (some (cP a b c d e)) = True := eq_true ⟨a, b, c, d, e, rfl⟩
theorem isX_1 (f t : Option Nat) (mx my ln fw sh : Int32) (rest : List Value) : isX (some (cX 1 f t mx my ln fw sh rest)) = True := eq_true ⟨1, f, t, mx, my, ln, fw, sh, rest, Or.inl rfl, rfl⟩
theorem isX_6 (f t : Option Nat) (mx my ln fw sh : Int32) (rest : List Value) : isX (some (cX 6 f t mx my ln fw sh rest)) = True := eq_true ⟨6, f, t, mx, my, ln, fw, sh, rest, Or.inr rfl, rfl⟩
theorem isD_1 (f t : Option Nat) (mx my ln fw sh : Int32) (rest : List Value) : isD (some (cX 1 f t mx my ln fw sh rest)) = True := eq_true ⟨f, t, mx, my, ln, fw, sh, rest, rfl⟩
theorem va_rf_s (a : Nat) : va_rf (some a) = .ref a := rfl
theorem va_rf_n : va_rf none = .null := rfl
theorem va_rf_eq (f : Option Nat) (r : Nat) : (va_rf f = .ref r) = (f = some r) := by
  cases f with
  | none => simp [va_rf]
  | some x => simp [va_rf]
theorem va_rf_nl (f : Option Nat) : (va_rf f = .null) = (f = none) := by
  cases f with
  | none => simp [va_rf]
  | some x => simp [va_rf]
def sp_X6_lowest (E : zk_E) : zk_Sp zk_S := fun av σ sz P PX => match av with
  | [.ref a, .int b] => E.1 + 28 ≤ a ∧ isR (σ.2.2.2.1 a) ∧ P (some (.int (p_line b (fI (σ.2.2.2.1 a) 2) (fI (σ.2.2.2.1 a) 3)))) σ sz
  | _ => False
theorem spe_X6_lowest (E : zk_E) (a : Nat) (b : Int32) (σ : zk_S) (sz : Nat) (P : zk_P zk_S) (PX : zk_X zk_S) : sp_X6_lowest E [.ref a, .int b] σ sz P PX = (E.1 + 28 ≤ a ∧ isR (σ.2.2.2.1 a) ∧ P (some (.int (p_line b (fI (σ.2.2.2.1 a) 2) (fI (σ.2.2.2.1 a) 3)))) σ sz) := propext Iff.rfl
def C_X6_lowest (E : zk_E) : zk_Cl zk_S := zk_lka []
theorem r_X6_lowest (E : zk_E) (P : zk_P zk_S) (PX : zk_X zk_S) (K : Nat → zk_L → List Value → zk_W zk_S → Prop) : (∀ (n : Nat) (l0 : Option Value) (y1 : Int32) (r : List Value) (σ : zk_S) (sz k c : Nat), zk_run E (zk_VT E) M_X6_lowest (C_X6_lowest E) P PX K (n + 1) 0 [l0, some (.int y1)] r (σ, sz, k, c) = zk_run E (zk_VT E) M_X6_lowest (C_X6_lowest E) P PX K n 1 [l0, some (.int y1)] (.int y1 :: r) (σ, sz, k, c)) ∧
  (∀ (n : Nat) (l0 l1 : Option Value) (x : Int32) (r : List Value) (σ : zk_S) (sz k c : Nat), zk_run E (zk_VT E) M_X6_lowest (C_X6_lowest E) P PX K (n + 1) 1 [l0, l1] (.int x :: r) (σ, sz, k, c) = ((x = 0 → zk_run E (zk_VT E) M_X6_lowest (C_X6_lowest E) P PX K n 11 [l0, l1] r (σ, sz, k, c)) ∧ (¬ (x = 0) → zk_run E (zk_VT E) M_X6_lowest (C_X6_lowest E) P PX K n 4 [l0, l1] r (σ, sz, k, c)))) ∧
  (∀ (n : Nat) (l1 : Option Value) (y0 : Value) (r : List Value) (σ : zk_S) (sz k c : Nat), zk_run E (zk_VT E) M_X6_lowest (C_X6_lowest E) P PX K (n + 1) 4 [some y0, l1] r (σ, sz, k, c) = (zk_isr y0 ∧ zk_run E (zk_VT E) M_X6_lowest (C_X6_lowest E) P PX K n 5 [some y0, l1] (y0 :: r) (σ, sz, k, c))) ∧
  (∀ (n : Nat) (l0 l1 : Option Value) (a : Nat) (r : List Value) (σ : zk_S) (sz k c : Nat), zk_run E (zk_VT E) M_X6_lowest (C_X6_lowest E) P PX K (n + 1) 5 [l0, l1] (.ref a :: r) (σ, sz, k, c) = zk_fld (zk_view E σ a) [5] 2 (fun v => zk_run E (zk_VT E) M_X6_lowest (C_X6_lowest E) P PX K n 8 [l0, l1] (v :: r) (σ, sz, k, c))) ∧
  (∀ (n : Nat) (l0 l1 : Option Value)  (r : List Value) (σ : zk_S) (sz k c : Nat), zk_run E (zk_VT E) M_X6_lowest (C_X6_lowest E) P PX K (n + 1) 8 [l0, l1] r (σ, sz, k, c) = zk_run E (zk_VT E) M_X6_lowest (C_X6_lowest E) P PX K n 15 [l0, l1] r (σ, sz, k, c)) ∧
  (∀ (n : Nat) (l1 : Option Value) (y0 : Value) (r : List Value) (σ : zk_S) (sz k c : Nat), zk_run E (zk_VT E) M_X6_lowest (C_X6_lowest E) P PX K (n + 1) 11 [some y0, l1] r (σ, sz, k, c) = (zk_isr y0 ∧ zk_run E (zk_VT E) M_X6_lowest (C_X6_lowest E) P PX K n 12 [some y0, l1] (y0 :: r) (σ, sz, k, c))) ∧
  (∀ (n : Nat) (l0 l1 : Option Value) (a : Nat) (r : List Value) (σ : zk_S) (sz k c : Nat), zk_run E (zk_VT E) M_X6_lowest (C_X6_lowest E) P PX K (n + 1) 12 [l0, l1] (.ref a :: r) (σ, sz, k, c) = zk_fld (zk_view E σ a) [5] 3 (fun v => zk_run E (zk_VT E) M_X6_lowest (C_X6_lowest E) P PX K n 15 [l0, l1] (v :: r) (σ, sz, k, c))) ∧
  (∀ (n : Nat) (l0 l1 : Option Value) (x : Int32)  (σ : zk_S) (sz k c : Nat), zk_run E (zk_VT E) M_X6_lowest (C_X6_lowest E) P PX K (n + 1) 15 [l0, l1] [.int x] (σ, sz, k, c) = (zk_nok (some (.int)) x ∧ P (some (.int x)) σ sz ∧ k ≤ 0 ∧ c ≤ 0)) ∧
  (∀ (n : Nat) (l0 l1 : Option Value) (r : List Value) (w : zk_W zk_S), zk_go E (zk_VT E) M_X6_lowest (C_X6_lowest E) P PX K n 0 [l0, l1] r w = zk_run E (zk_VT E) M_X6_lowest (C_X6_lowest E) P PX K (n + 1) 0 [l0, l1] r w) := ⟨by intros; rfl, by intros; rfl, by intros; rfl, by intros; rfl, by intros; rfl, by intros; rfl, by intros; rfl, by intros; rfl, by intros; rfl⟩
theorem vc_X6_lowest (E : zk_E) : zk_VC E (zk_VT E) M_X6_lowest (C_X6_lowest E) 2 (sp_X6_lowest E) := by
  intro av σ sz P PX h
  obtain ⟨J, N, Q, O, U⟩ := σ
  unfold sp_X6_lowest at h
  split at h
  case h_2 => exact h.elim
  rename_i a b
  refine ⟨Nat.le_of_ble_eq_true rfl, fun G hG => ?_⟩
  change G 0 [some (.ref (a)), some (.int b)] [] ((J, N, Q, O, U), sz, 0, 0)
  try dsimp only at h
  obtain ⟨ha, ⟨r0, r1, r2, r3, r4, r5, r6, r7, hO⟩, h⟩ := h
  rw [hO] at h
  simp only [fI_R] at h
  unfold p_line at h
  unfold cR at hO
  by_cases q : b = 0
  · rw [if_pos q] at h
    (refine hG 900 _ _ _ _ ?_; simp only [r_X6_lowest, zk_vd ha, hO, q])
    exact h
  · rw [if_neg q] at h
    (refine hG 900 _ _ _ _ ?_; simp only [r_X6_lowest, zk_vd ha, hO, q])
    exact h
theorem ct_X6_lowest {l : Launch} (hl : l.stackTraces = false) (E : zk_E) : zk_C l E (zk_VT E) yX6_lowest cX6_lowest 2 (some (.int)) rm_X6_lowest (sp_X6_lowest E) := by
  refine zk_meth (M := M_X6_lowest) (C := C_X6_lowest E) hl (by decide +kernel) rfl (fun _ _ => rfl) (zk_VT_ok E) MO_X6_lowest TO_X6_lowest THo_X6_lowest ?_ (vc_X6_lowest E)
  exact fun p e s m args below meth c X pc n mc ms sp2 h => absurd (zk_lka_mem h) List.not_mem_nil
def sp_X6_highest (E : zk_E) : zk_Sp zk_S := fun av σ sz P PX => match av with
  | [.ref a, .int b] => E.1 + 28 ≤ a ∧ isR (σ.2.2.2.1 a) ∧ P (some (.int (p_line b (fI (σ.2.2.2.1 a) 2) (fI (σ.2.2.2.1 a) 3) + p_line b (fI (σ.2.2.2.1 a) 4) (fI (σ.2.2.2.1 a) 5)))) σ sz
  | _ => False
theorem spe_X6_highest (E : zk_E) (a : Nat) (b : Int32) (σ : zk_S) (sz : Nat) (P : zk_P zk_S) (PX : zk_X zk_S) : sp_X6_highest E [.ref a, .int b] σ sz P PX = (E.1 + 28 ≤ a ∧ isR (σ.2.2.2.1 a) ∧ P (some (.int (p_line b (fI (σ.2.2.2.1 a) 2) (fI (σ.2.2.2.1 a) 3) + p_line b (fI (σ.2.2.2.1 a) 4) (fI (σ.2.2.2.1 a) 5)))) σ sz) := propext Iff.rfl
def C_X6_highest (E : zk_E) : zk_Cl zk_S := zk_lka []
theorem r_X6_highest (E : zk_E) (P : zk_P zk_S) (PX : zk_X zk_S) (K : Nat → zk_L → List Value → zk_W zk_S → Prop) : (∀ (n : Nat) (l0 : Option Value) (y1 : Int32) (r : List Value) (σ : zk_S) (sz k c : Nat), zk_run E (zk_VT E) M_X6_highest (C_X6_highest E) P PX K (n + 1) 0 [l0, some (.int y1)] r (σ, sz, k, c) = zk_run E (zk_VT E) M_X6_highest (C_X6_highest E) P PX K n 1 [l0, some (.int y1)] (.int y1 :: r) (σ, sz, k, c)) ∧
  (∀ (n : Nat) (l0 l1 : Option Value) (x : Int32) (r : List Value) (σ : zk_S) (sz k c : Nat), zk_run E (zk_VT E) M_X6_highest (C_X6_highest E) P PX K (n + 1) 1 [l0, l1] (.int x :: r) (σ, sz, k, c) = ((x = 0 → zk_run E (zk_VT E) M_X6_highest (C_X6_highest E) P PX K n 16 [l0, l1] r (σ, sz, k, c)) ∧ (¬ (x = 0) → zk_run E (zk_VT E) M_X6_highest (C_X6_highest E) P PX K n 4 [l0, l1] r (σ, sz, k, c)))) ∧
  (∀ (n : Nat) (l1 : Option Value) (y0 : Value) (r : List Value) (σ : zk_S) (sz k c : Nat), zk_run E (zk_VT E) M_X6_highest (C_X6_highest E) P PX K (n + 1) 4 [some y0, l1] r (σ, sz, k, c) = (zk_isr y0 ∧ zk_run E (zk_VT E) M_X6_highest (C_X6_highest E) P PX K n 5 [some y0, l1] (y0 :: r) (σ, sz, k, c))) ∧
  (∀ (n : Nat) (l0 l1 : Option Value) (a : Nat) (r : List Value) (σ : zk_S) (sz k c : Nat), zk_run E (zk_VT E) M_X6_highest (C_X6_highest E) P PX K (n + 1) 5 [l0, l1] (.ref a :: r) (σ, sz, k, c) = zk_fld (zk_view E σ a) [5] 2 (fun v => zk_run E (zk_VT E) M_X6_highest (C_X6_highest E) P PX K n 8 [l0, l1] (v :: r) (σ, sz, k, c))) ∧
  (∀ (n : Nat) (l1 : Option Value) (y0 : Value) (r : List Value) (σ : zk_S) (sz k c : Nat), zk_run E (zk_VT E) M_X6_highest (C_X6_highest E) P PX K (n + 1) 8 [some y0, l1] r (σ, sz, k, c) = (zk_isr y0 ∧ zk_run E (zk_VT E) M_X6_highest (C_X6_highest E) P PX K n 9 [some y0, l1] (y0 :: r) (σ, sz, k, c))) ∧
  (∀ (n : Nat) (l0 l1 : Option Value) (a : Nat) (r : List Value) (σ : zk_S) (sz k c : Nat), zk_run E (zk_VT E) M_X6_highest (C_X6_highest E) P PX K (n + 1) 9 [l0, l1] (.ref a :: r) (σ, sz, k, c) = zk_fld (zk_view E σ a) [5] 4 (fun v => zk_run E (zk_VT E) M_X6_highest (C_X6_highest E) P PX K n 12 [l0, l1] (v :: r) (σ, sz, k, c))) ∧
  (∀ (n : Nat) (l0 l1 : Option Value) (x y : Int32) (r : List Value) (σ : zk_S) (sz k c : Nat), zk_run E (zk_VT E) M_X6_highest (C_X6_highest E) P PX K (n + 1) 12 [l0, l1] (.int y :: .int x :: r) (σ, sz, k, c) = zk_run E (zk_VT E) M_X6_highest (C_X6_highest E) P PX K n 13 [l0, l1] (.int (x + y) :: r) (σ, sz, k, c)) ∧
  (∀ (n : Nat) (l0 l1 : Option Value)  (r : List Value) (σ : zk_S) (sz k c : Nat), zk_run E (zk_VT E) M_X6_highest (C_X6_highest E) P PX K (n + 1) 13 [l0, l1] r (σ, sz, k, c) = zk_run E (zk_VT E) M_X6_highest (C_X6_highest E) P PX K n 25 [l0, l1] r (σ, sz, k, c)) ∧
  (∀ (n : Nat) (l1 : Option Value) (y0 : Value) (r : List Value) (σ : zk_S) (sz k c : Nat), zk_run E (zk_VT E) M_X6_highest (C_X6_highest E) P PX K (n + 1) 16 [some y0, l1] r (σ, sz, k, c) = (zk_isr y0 ∧ zk_run E (zk_VT E) M_X6_highest (C_X6_highest E) P PX K n 17 [some y0, l1] (y0 :: r) (σ, sz, k, c))) ∧
  (∀ (n : Nat) (l0 l1 : Option Value) (a : Nat) (r : List Value) (σ : zk_S) (sz k c : Nat), zk_run E (zk_VT E) M_X6_highest (C_X6_highest E) P PX K (n + 1) 17 [l0, l1] (.ref a :: r) (σ, sz, k, c) = zk_fld (zk_view E σ a) [5] 3 (fun v => zk_run E (zk_VT E) M_X6_highest (C_X6_highest E) P PX K n 20 [l0, l1] (v :: r) (σ, sz, k, c))) ∧
  (∀ (n : Nat) (l1 : Option Value) (y0 : Value) (r : List Value) (σ : zk_S) (sz k c : Nat), zk_run E (zk_VT E) M_X6_highest (C_X6_highest E) P PX K (n + 1) 20 [some y0, l1] r (σ, sz, k, c) = (zk_isr y0 ∧ zk_run E (zk_VT E) M_X6_highest (C_X6_highest E) P PX K n 21 [some y0, l1] (y0 :: r) (σ, sz, k, c))) ∧
  (∀ (n : Nat) (l0 l1 : Option Value) (a : Nat) (r : List Value) (σ : zk_S) (sz k c : Nat), zk_run E (zk_VT E) M_X6_highest (C_X6_highest E) P PX K (n + 1) 21 [l0, l1] (.ref a :: r) (σ, sz, k, c) = zk_fld (zk_view E σ a) [5] 5 (fun v => zk_run E (zk_VT E) M_X6_highest (C_X6_highest E) P PX K n 24 [l0, l1] (v :: r) (σ, sz, k, c))) ∧
  (∀ (n : Nat) (l0 l1 : Option Value) (x y : Int32) (r : List Value) (σ : zk_S) (sz k c : Nat), zk_run E (zk_VT E) M_X6_highest (C_X6_highest E) P PX K (n + 1) 24 [l0, l1] (.int y :: .int x :: r) (σ, sz, k, c) = zk_run E (zk_VT E) M_X6_highest (C_X6_highest E) P PX K n 25 [l0, l1] (.int (x + y) :: r) (σ, sz, k, c)) ∧
  (∀ (n : Nat) (l0 l1 : Option Value) (x : Int32)  (σ : zk_S) (sz k c : Nat), zk_run E (zk_VT E) M_X6_highest (C_X6_highest E) P PX K (n + 1) 25 [l0, l1] [.int x] (σ, sz, k, c) = (zk_nok (some (.int)) x ∧ P (some (.int x)) σ sz ∧ k ≤ 0 ∧ c ≤ 0)) ∧
  (∀ (n : Nat) (l0 l1 : Option Value) (r : List Value) (w : zk_W zk_S), zk_go E (zk_VT E) M_X6_highest (C_X6_highest E) P PX K n 0 [l0, l1] r w = zk_run E (zk_VT E) M_X6_highest (C_X6_highest E) P PX K (n + 1) 0 [l0, l1] r w) := ⟨by intros; rfl, by intros; rfl, by intros; rfl, by intros; rfl, by intros; rfl, by intros; rfl, by intros; rfl, by intros; rfl, by intros; rfl, by intros; rfl, by intros; rfl, by intros; rfl, by intros; rfl, by intros; rfl, by intros; rfl⟩
theorem vc_X6_highest (E : zk_E) : zk_VC E (zk_VT E) M_X6_highest (C_X6_highest E) 2 (sp_X6_highest E) := by
  intro av σ sz P PX h
  obtain ⟨J, N, Q, O, U⟩ := σ
  unfold sp_X6_highest at h
  split at h
  case h_2 => exact h.elim
  rename_i a b
  refine ⟨Nat.le_of_ble_eq_true rfl, fun G hG => ?_⟩
  change G 0 [some (.ref (a)), some (.int b)] [] ((J, N, Q, O, U), sz, 0, 0)
  try dsimp only at h
  obtain ⟨ha, ⟨r0, r1, r2, r3, r4, r5, r6, r7, hO⟩, h⟩ := h
  rw [hO] at h
  simp only [fI_R] at h
  unfold p_line at h
  unfold cR at hO
  by_cases q : b = 0
  · rw [if_pos q, if_pos q] at h
    (refine hG 900 _ _ _ _ ?_; simp only [r_X6_highest, zk_vd ha, hO, q])
    exact h
  · rw [if_neg q, if_neg q] at h
    (refine hG 900 _ _ _ _ ?_; simp only [r_X6_highest, zk_vd ha, hO, q])
    exact h
theorem ct_X6_highest {l : Launch} (hl : l.stackTraces = false) (E : zk_E) : zk_C l E (zk_VT E) yX6_highest cX6_highest 2 (some (.int)) rm_X6_highest (sp_X6_highest E) := by
  refine zk_meth (M := M_X6_highest) (C := C_X6_highest E) hl (by decide +kernel) rfl (fun _ _ => rfl) (zk_VT_ok E) MO_X6_highest TO_X6_highest THo_X6_highest ?_ (vc_X6_highest E)
  exact fun p e s m args below meth c X pc n mc ms sp2 h => absurd (zk_lka_mem h) List.not_mem_nil
def m_unit (x y w h ux uy : Int32) : Bool := decide (x ≤ ux) && (decide (ux < x + w) && (decide (y ≤ uy) && decide (uy < y + h)))
def sp_X6_hasPoint (E : zk_E) : zk_Sp zk_S := fun av σ sz P PX => match av with
  | [.ref a, .int ux, .int uy] => E.1 + 28 ≤ a ∧ isR (σ.2.2.2.1 a) ∧ P (some (.int (zk_b (m_isIn ux (fI (σ.2.2.2.1 a) 2) (fI (σ.2.2.2.1 a) 2 + fI (σ.2.2.2.1 a) 4) && m_isIn uy (fI (σ.2.2.2.1 a) 3) (fI (σ.2.2.2.1 a) 3 + fI (σ.2.2.2.1 a) 5))))) σ sz
  | _ => False
theorem spe_X6_hasPoint (E : zk_E) (a : Nat) (ux : Int32) (uy : Int32) (σ : zk_S) (sz : Nat) (P : zk_P zk_S) (PX : zk_X zk_S) : sp_X6_hasPoint E [.ref a, .int ux, .int uy] σ sz P PX = (E.1 + 28 ≤ a ∧ isR (σ.2.2.2.1 a) ∧ P (some (.int (zk_b (m_isIn ux (fI (σ.2.2.2.1 a) 2) (fI (σ.2.2.2.1 a) 2 + fI (σ.2.2.2.1 a) 4) && m_isIn uy (fI (σ.2.2.2.1 a) 3) (fI (σ.2.2.2.1 a) 3 + fI (σ.2.2.2.1 a) 5))))) σ sz) := propext Iff.rfl
def C_X6_hasPoint (E : zk_E) : zk_Cl zk_S := zk_lka []
theorem r_X6_hasPoint (E : zk_E) (P : zk_P zk_S) (PX : zk_X zk_S) (K : Nat → zk_L → List Value → zk_W zk_S → Prop) : (∀ (n : Nat) (l0 l2 : Option Value) (y1 : Int32) (r : List Value) (σ : zk_S) (sz k c : Nat), zk_run E (zk_VT E) M_X6_hasPoint (C_X6_hasPoint E) P PX K (n + 1) 0 [l0, some (.int y1), l2] r (σ, sz, k, c) = zk_run E (zk_VT E) M_X6_hasPoint (C_X6_hasPoint E) P PX K n 1 [l0, some (.int y1), l2] (.int y1 :: r) (σ, sz, k, c)) ∧
  (∀ (n : Nat) (l1 l2 : Option Value) (y0 : Value) (r : List Value) (σ : zk_S) (sz k c : Nat), zk_run E (zk_VT E) M_X6_hasPoint (C_X6_hasPoint E) P PX K (n + 1) 1 [some y0, l1, l2] r (σ, sz, k, c) = (zk_isr y0 ∧ zk_run E (zk_VT E) M_X6_hasPoint (C_X6_hasPoint E) P PX K n 2 [some y0, l1, l2] (y0 :: r) (σ, sz, k, c))) ∧
  (∀ (n : Nat) (l0 l1 l2 : Option Value) (a : Nat) (r : List Value) (σ : zk_S) (sz k c : Nat), zk_run E (zk_VT E) M_X6_hasPoint (C_X6_hasPoint E) P PX K (n + 1) 2 [l0, l1, l2] (.ref a :: r) (σ, sz, k, c) = zk_fld (zk_view E σ a) [5] 2 (fun v => zk_run E (zk_VT E) M_X6_hasPoint (C_X6_hasPoint E) P PX K n 5 [l0, l1, l2] (v :: r) (σ, sz, k, c))) ∧
  (∀ (n : Nat) (l0 l1 l2 : Option Value) (x y : Int32) (r : List Value) (σ : zk_S) (sz k c : Nat), zk_run E (zk_VT E) M_X6_hasPoint (C_X6_hasPoint E) P PX K (n + 1) 5 [l0, l1, l2] (.int y :: .int x :: r) (σ, sz, k, c) = ((x < y → zk_run E (zk_VT E) M_X6_hasPoint (C_X6_hasPoint E) P PX K n 46 [l0, l1, l2] r (σ, sz, k, c)) ∧ (¬ (x < y) → zk_run E (zk_VT E) M_X6_hasPoint (C_X6_hasPoint E) P PX K n 8 [l0, l1, l2] r (σ, sz, k, c)))) ∧
  (∀ (n : Nat) (l0 l2 : Option Value) (y1 : Int32) (r : List Value) (σ : zk_S) (sz k c : Nat), zk_run E (zk_VT E) M_X6_hasPoint (C_X6_hasPoint E) P PX K (n + 1) 8 [l0, some (.int y1), l2] r (σ, sz, k, c) = zk_run E (zk_VT E) M_X6_hasPoint (C_X6_hasPoint E) P PX K n 9 [l0, some (.int y1), l2] (.int y1 :: r) (σ, sz, k, c)) ∧
  (∀ (n : Nat) (l1 l2 : Option Value) (y0 : Value) (r : List Value) (σ : zk_S) (sz k c : Nat), zk_run E (zk_VT E) M_X6_hasPoint (C_X6_hasPoint E) P PX K (n + 1) 9 [some y0, l1, l2] r (σ, sz, k, c) = (zk_isr y0 ∧ zk_run E (zk_VT E) M_X6_hasPoint (C_X6_hasPoint E) P PX K n 10 [some y0, l1, l2] (y0 :: r) (σ, sz, k, c))) ∧
  (∀ (n : Nat) (l0 l1 l2 : Option Value) (a : Nat) (r : List Value) (σ : zk_S) (sz k c : Nat), zk_run E (zk_VT E) M_X6_hasPoint (C_X6_hasPoint E) P PX K (n + 1) 10 [l0, l1, l2] (.ref a :: r) (σ, sz, k, c) = zk_fld (zk_view E σ a) [5] 2 (fun v => zk_run E (zk_VT E) M_X6_hasPoint (C_X6_hasPoint E) P PX K n 13 [l0, l1, l2] (v :: r) (σ, sz, k, c))) ∧
  (∀ (n : Nat) (l1 l2 : Option Value) (y0 : Value) (r : List Value) (σ : zk_S) (sz k c : Nat), zk_run E (zk_VT E) M_X6_hasPoint (C_X6_hasPoint E) P PX K (n + 1) 13 [some y0, l1, l2] r (σ, sz, k, c) = (zk_isr y0 ∧ zk_run E (zk_VT E) M_X6_hasPoint (C_X6_hasPoint E) P PX K n 14 [some y0, l1, l2] (y0 :: r) (σ, sz, k, c))) ∧
  (∀ (n : Nat) (l0 l1 l2 : Option Value) (a : Nat) (r : List Value) (σ : zk_S) (sz k c : Nat), zk_run E (zk_VT E) M_X6_hasPoint (C_X6_hasPoint E) P PX K (n + 1) 14 [l0, l1, l2] (.ref a :: r) (σ, sz, k, c) = zk_fld (zk_view E σ a) [5] 4 (fun v => zk_run E (zk_VT E) M_X6_hasPoint (C_X6_hasPoint E) P PX K n 17 [l0, l1, l2] (v :: r) (σ, sz, k, c))) ∧
  (∀ (n : Nat) (l0 l1 l2 : Option Value) (x y : Int32) (r : List Value) (σ : zk_S) (sz k c : Nat), zk_run E (zk_VT E) M_X6_hasPoint (C_X6_hasPoint E) P PX K (n + 1) 17 [l0, l1, l2] (.int y :: .int x :: r) (σ, sz, k, c) = zk_run E (zk_VT E) M_X6_hasPoint (C_X6_hasPoint E) P PX K n 18 [l0, l1, l2] (.int (x + y) :: r) (σ, sz, k, c)) ∧
  (∀ (n : Nat) (l0 l1 l2 : Option Value) (x y : Int32) (r : List Value) (σ : zk_S) (sz k c : Nat), zk_run E (zk_VT E) M_X6_hasPoint (C_X6_hasPoint E) P PX K (n + 1) 18 [l0, l1, l2] (.int y :: .int x :: r) (σ, sz, k, c) = ((y < x → zk_run E (zk_VT E) M_X6_hasPoint (C_X6_hasPoint E) P PX K n 46 [l0, l1, l2] r (σ, sz, k, c)) ∧ (¬ (y < x) → zk_run E (zk_VT E) M_X6_hasPoint (C_X6_hasPoint E) P PX K n 21 [l0, l1, l2] r (σ, sz, k, c)))) ∧
  (∀ (n : Nat) (l0 l1 : Option Value) (y2 : Int32) (r : List Value) (σ : zk_S) (sz k c : Nat), zk_run E (zk_VT E) M_X6_hasPoint (C_X6_hasPoint E) P PX K (n + 1) 21 [l0, l1, some (.int y2)] r (σ, sz, k, c) = zk_run E (zk_VT E) M_X6_hasPoint (C_X6_hasPoint E) P PX K n 22 [l0, l1, some (.int y2)] (.int y2 :: r) (σ, sz, k, c)) ∧
  (∀ (n : Nat) (l1 l2 : Option Value) (y0 : Value) (r : List Value) (σ : zk_S) (sz k c : Nat), zk_run E (zk_VT E) M_X6_hasPoint (C_X6_hasPoint E) P PX K (n + 1) 22 [some y0, l1, l2] r (σ, sz, k, c) = (zk_isr y0 ∧ zk_run E (zk_VT E) M_X6_hasPoint (C_X6_hasPoint E) P PX K n 23 [some y0, l1, l2] (y0 :: r) (σ, sz, k, c))) ∧
  (∀ (n : Nat) (l0 l1 l2 : Option Value) (a : Nat) (r : List Value) (σ : zk_S) (sz k c : Nat), zk_run E (zk_VT E) M_X6_hasPoint (C_X6_hasPoint E) P PX K (n + 1) 23 [l0, l1, l2] (.ref a :: r) (σ, sz, k, c) = zk_fld (zk_view E σ a) [5] 3 (fun v => zk_run E (zk_VT E) M_X6_hasPoint (C_X6_hasPoint E) P PX K n 26 [l0, l1, l2] (v :: r) (σ, sz, k, c))) ∧
  (∀ (n : Nat) (l0 l1 l2 : Option Value) (x y : Int32) (r : List Value) (σ : zk_S) (sz k c : Nat), zk_run E (zk_VT E) M_X6_hasPoint (C_X6_hasPoint E) P PX K (n + 1) 26 [l0, l1, l2] (.int y :: .int x :: r) (σ, sz, k, c) = ((x < y → zk_run E (zk_VT E) M_X6_hasPoint (C_X6_hasPoint E) P PX K n 46 [l0, l1, l2] r (σ, sz, k, c)) ∧ (¬ (x < y) → zk_run E (zk_VT E) M_X6_hasPoint (C_X6_hasPoint E) P PX K n 29 [l0, l1, l2] r (σ, sz, k, c)))) ∧
  (∀ (n : Nat) (l0 l1 : Option Value) (y2 : Int32) (r : List Value) (σ : zk_S) (sz k c : Nat), zk_run E (zk_VT E) M_X6_hasPoint (C_X6_hasPoint E) P PX K (n + 1) 29 [l0, l1, some (.int y2)] r (σ, sz, k, c) = zk_run E (zk_VT E) M_X6_hasPoint (C_X6_hasPoint E) P PX K n 30 [l0, l1, some (.int y2)] (.int y2 :: r) (σ, sz, k, c)) ∧
  (∀ (n : Nat) (l1 l2 : Option Value) (y0 : Value) (r : List Value) (σ : zk_S) (sz k c : Nat), zk_run E (zk_VT E) M_X6_hasPoint (C_X6_hasPoint E) P PX K (n + 1) 30 [some y0, l1, l2] r (σ, sz, k, c) = (zk_isr y0 ∧ zk_run E (zk_VT E) M_X6_hasPoint (C_X6_hasPoint E) P PX K n 31 [some y0, l1, l2] (y0 :: r) (σ, sz, k, c))) ∧
  (∀ (n : Nat) (l0 l1 l2 : Option Value) (a : Nat) (r : List Value) (σ : zk_S) (sz k c : Nat), zk_run E (zk_VT E) M_X6_hasPoint (C_X6_hasPoint E) P PX K (n + 1) 31 [l0, l1, l2] (.ref a :: r) (σ, sz, k, c) = zk_fld (zk_view E σ a) [5] 3 (fun v => zk_run E (zk_VT E) M_X6_hasPoint (C_X6_hasPoint E) P PX K n 34 [l0, l1, l2] (v :: r) (σ, sz, k, c))) ∧
  (∀ (n : Nat) (l1 l2 : Option Value) (y0 : Value) (r : List Value) (σ : zk_S) (sz k c : Nat), zk_run E (zk_VT E) M_X6_hasPoint (C_X6_hasPoint E) P PX K (n + 1) 34 [some y0, l1, l2] r (σ, sz, k, c) = (zk_isr y0 ∧ zk_run E (zk_VT E) M_X6_hasPoint (C_X6_hasPoint E) P PX K n 35 [some y0, l1, l2] (y0 :: r) (σ, sz, k, c))) ∧
  (∀ (n : Nat) (l0 l1 l2 : Option Value) (a : Nat) (r : List Value) (σ : zk_S) (sz k c : Nat), zk_run E (zk_VT E) M_X6_hasPoint (C_X6_hasPoint E) P PX K (n + 1) 35 [l0, l1, l2] (.ref a :: r) (σ, sz, k, c) = zk_fld (zk_view E σ a) [5] 5 (fun v => zk_run E (zk_VT E) M_X6_hasPoint (C_X6_hasPoint E) P PX K n 38 [l0, l1, l2] (v :: r) (σ, sz, k, c))) ∧
  (∀ (n : Nat) (l0 l1 l2 : Option Value) (x y : Int32) (r : List Value) (σ : zk_S) (sz k c : Nat), zk_run E (zk_VT E) M_X6_hasPoint (C_X6_hasPoint E) P PX K (n + 1) 38 [l0, l1, l2] (.int y :: .int x :: r) (σ, sz, k, c) = zk_run E (zk_VT E) M_X6_hasPoint (C_X6_hasPoint E) P PX K n 39 [l0, l1, l2] (.int (x + y) :: r) (σ, sz, k, c)) ∧
  (∀ (n : Nat) (l0 l1 l2 : Option Value) (x y : Int32) (r : List Value) (σ : zk_S) (sz k c : Nat), zk_run E (zk_VT E) M_X6_hasPoint (C_X6_hasPoint E) P PX K (n + 1) 39 [l0, l1, l2] (.int y :: .int x :: r) (σ, sz, k, c) = ((y < x → zk_run E (zk_VT E) M_X6_hasPoint (C_X6_hasPoint E) P PX K n 46 [l0, l1, l2] r (σ, sz, k, c)) ∧ (¬ (y < x) → zk_run E (zk_VT E) M_X6_hasPoint (C_X6_hasPoint E) P PX K n 42 [l0, l1, l2] r (σ, sz, k, c)))) ∧
  (∀ (n : Nat) (l0 l1 l2 : Option Value)  (r : List Value) (σ : zk_S) (sz k c : Nat), zk_run E (zk_VT E) M_X6_hasPoint (C_X6_hasPoint E) P PX K (n + 1) 42 [l0, l1, l2] r (σ, sz, k, c) = zk_run E (zk_VT E) M_X6_hasPoint (C_X6_hasPoint E) P PX K n 43 [l0, l1, l2] (.int (1) :: r) (σ, sz, k, c)) ∧
  (∀ (n : Nat) (l0 l1 l2 : Option Value)  (r : List Value) (σ : zk_S) (sz k c : Nat), zk_run E (zk_VT E) M_X6_hasPoint (C_X6_hasPoint E) P PX K (n + 1) 43 [l0, l1, l2] r (σ, sz, k, c) = zk_run E (zk_VT E) M_X6_hasPoint (C_X6_hasPoint E) P PX K n 47 [l0, l1, l2] r (σ, sz, k, c)) ∧
  (∀ (n : Nat) (l0 l1 l2 : Option Value)  (r : List Value) (σ : zk_S) (sz k c : Nat), zk_run E (zk_VT E) M_X6_hasPoint (C_X6_hasPoint E) P PX K (n + 1) 46 [l0, l1, l2] r (σ, sz, k, c) = zk_run E (zk_VT E) M_X6_hasPoint (C_X6_hasPoint E) P PX K n 47 [l0, l1, l2] (.int (0) :: r) (σ, sz, k, c)) ∧
  (∀ (n : Nat) (l0 l1 l2 : Option Value) (x : Int32)  (σ : zk_S) (sz k c : Nat), zk_run E (zk_VT E) M_X6_hasPoint (C_X6_hasPoint E) P PX K (n + 1) 47 [l0, l1, l2] [.int x] (σ, sz, k, c) = (zk_nok (some (.boolean)) x ∧ P (some (.int x)) σ sz ∧ k ≤ 0 ∧ c ≤ 0)) ∧
  (∀ (n : Nat) (l0 l1 l2 : Option Value) (r : List Value) (w : zk_W zk_S), zk_go E (zk_VT E) M_X6_hasPoint (C_X6_hasPoint E) P PX K n 0 [l0, l1, l2] r w = zk_run E (zk_VT E) M_X6_hasPoint (C_X6_hasPoint E) P PX K (n + 1) 0 [l0, l1, l2] r w) := ⟨by intros; rfl, by intros; rfl, by intros; rfl, by intros; rfl, by intros; rfl, by intros; rfl, by intros; rfl, by intros; rfl, by intros; rfl, by intros; rfl, by intros; rfl, by intros; rfl, by intros; rfl, by intros; rfl, by intros; rfl, by intros; rfl, by intros; rfl, by intros; rfl, by intros; rfl, by intros; rfl, by intros; rfl, by intros; rfl, by intros; rfl, by intros; rfl, by intros; rfl, by intros; rfl, by intros; rfl⟩
theorem vc_X6_hasPoint (E : zk_E) : zk_VC E (zk_VT E) M_X6_hasPoint (C_X6_hasPoint E) 3 (sp_X6_hasPoint E) := by
  intro av σ sz P PX h
  obtain ⟨J, N, Q, O, U⟩ := σ
  unfold sp_X6_hasPoint at h
  split at h
  case h_2 => exact h.elim
  rename_i a ux uy
  refine ⟨Nat.le_of_ble_eq_true rfl, fun G hG => ?_⟩
  change G 0 [some (.ref (a)), some (.int ux), some (.int uy)] [] ((J, N, Q, O, U), sz, 0, 0)
  try dsimp only at h
  obtain ⟨ha, ⟨r0, r1, x, y, w, hh, r6, r7, hO⟩, h⟩ := h
  rw [hO] at h
  simp only [fI_R] at h
  unfold cR at hO
  have it : ∀ v lo hi : Int32, lo ≤ v → v ≤ hi → m_isIn v lo hi = true := fun _ _ _ a b => decide_eq_true ⟨a, b⟩
  have if1 : ∀ v lo hi : Int32, ¬ lo ≤ v → m_isIn v lo hi = false := fun _ _ _ a => decide_eq_false (fun w => a w.1)
  have if2 : ∀ v lo hi : Int32, ¬ v ≤ hi → m_isIn v lo hi = false := fun _ _ _ a => decide_eq_false (fun w => a w.2)
  rcases (Decidable.em (x ≤ ux)) with q1 | q1
  · have d1 : (ux < x) = False := eq_false (Int32.not_lt.mpr q1)
    rcases (Decidable.em (ux ≤ x + w)) with q2 | q2
    · have d2 : (x + w < ux) = False := eq_false (Int32.not_lt.mpr q2)
      rcases (Decidable.em (y ≤ uy)) with q3 | q3
      · have d3 : (uy < y) = False := eq_false (Int32.not_lt.mpr q3)
        rcases (Decidable.em (uy ≤ y + hh)) with q4 | q4
        · have d4 : (y + hh < uy) = False := eq_false (Int32.not_lt.mpr q4)
          rw [it _ _ _ q1 q2, it _ _ _ q3 q4] at h
          (refine hG 900 _ _ _ _ ?_; simp only [r_X6_hasPoint, zk_vd ha, hO, d1, d2, d3, d4])
          exact h
        · have d4 : (y + hh < uy) = True := eq_true (Int32.not_le.mp q4)
          rw [if2 _ _ _ q4, Bool.and_false] at h
          (refine hG 900 _ _ _ _ ?_; simp only [r_X6_hasPoint, zk_vd ha, hO, d1, d2, d3, d4])
          exact h
      · have d3 : (uy < y) = True := eq_true (Int32.not_le.mp q3)
        rw [if1 _ _ _ q3, Bool.and_false] at h
        (refine hG 900 _ _ _ _ ?_; simp only [r_X6_hasPoint, zk_vd ha, hO, d1, d2, d3])
        exact h
    · have d2 : (x + w < ux) = True := eq_true (Int32.not_le.mp q2)
      rw [if2 _ _ _ q2, Bool.false_and] at h
      (refine hG 900 _ _ _ _ ?_; simp only [r_X6_hasPoint, zk_vd ha, hO, d1, d2])
      exact h
  · have d1 : (ux < x) = True := eq_true (Int32.not_le.mp q1)
    rw [if1 _ _ _ q1, Bool.false_and] at h
    (refine hG 900 _ _ _ _ ?_; simp only [r_X6_hasPoint, zk_vd ha, hO, d1])
    exact h
theorem ct_X6_hasPoint {l : Launch} (hl : l.stackTraces = false) (E : zk_E) : zk_C l E (zk_VT E) yX6_hasPoint cX6_hasPoint 3 (some (.boolean)) rm_X6_hasPoint (sp_X6_hasPoint E) := by
  refine zk_meth (M := M_X6_hasPoint) (C := C_X6_hasPoint E) hl (by decide +kernel) rfl (fun _ _ => rfl) (zk_VT_ok E) MO_X6_hasPoint TO_X6_hasPoint THo_X6_hasPoint ?_ (vc_X6_hasPoint E)
  exact fun p e s m args below meth c X pc n mc ms sp2 h => absurd (zk_lka_mem h) List.not_mem_nil
def m_cm (o o2 : Option va_E) : Int32 := u_common (fI o 2) (fI o 4) (fI o 3) (fI o 5) (fI o2 2) (fI o2 4) (fI o2 3) (fI o2 5)
def sp_X6_unitsInCommon (E : zk_E) : zk_Sp zk_S := fun av σ sz P PX => match av with
  | [.ref a, .ref b] => E.1 + 28 ≤ a ∧ isR (σ.2.2.2.1 a) ∧ E.1 + 28 ≤ b ∧ isR (σ.2.2.2.1 b) ∧ P (some (.int (m_cm (σ.2.2.2.1 a) (σ.2.2.2.1 b)))) σ sz
  | _ => False
theorem spe_X6_unitsInCommon (E : zk_E) (a : Nat) (b : Nat) (σ : zk_S) (sz : Nat) (P : zk_P zk_S) (PX : zk_X zk_S) : sp_X6_unitsInCommon E [.ref a, .ref b] σ sz P PX = (E.1 + 28 ≤ a ∧ isR (σ.2.2.2.1 a) ∧ E.1 + 28 ≤ b ∧ isR (σ.2.2.2.1 b) ∧ P (some (.int (m_cm (σ.2.2.2.1 a) (σ.2.2.2.1 b)))) σ sz) := propext Iff.rfl
def C_X6_unitsInCommon (E : zk_E) : zk_Cl zk_S := zk_lka []
theorem r_X6_unitsInCommon (E : zk_E) (P : zk_P zk_S) (PX : zk_X zk_S) (K : Nat → zk_L → List Value → zk_W zk_S → Prop) : (∀ (n : Nat) (l1 l2 l3 : Option Value) (y0 : Value) (r : List Value) (σ : zk_S) (sz k c : Nat), zk_run E (zk_VT E) M_X6_unitsInCommon (C_X6_unitsInCommon E) P PX K (n + 1) 0 [some y0, l1, l2, l3] r (σ, sz, k, c) = (zk_isr y0 ∧ zk_run E (zk_VT E) M_X6_unitsInCommon (C_X6_unitsInCommon E) P PX K n 1 [some y0, l1, l2, l3] (y0 :: r) (σ, sz, k, c))) ∧
  (∀ (n : Nat) (l0 l1 l2 l3 : Option Value) (a : Nat) (r : List Value) (σ : zk_S) (sz k c : Nat), zk_run E (zk_VT E) M_X6_unitsInCommon (C_X6_unitsInCommon E) P PX K (n + 1) 1 [l0, l1, l2, l3] (.ref a :: r) (σ, sz, k, c) = zk_fld (zk_view E σ a) [5] 2 (fun v => zk_run E (zk_VT E) M_X6_unitsInCommon (C_X6_unitsInCommon E) P PX K n 4 [l0, l1, l2, l3] (v :: r) (σ, sz, k, c))) ∧
  (∀ (n : Nat) (l1 l2 l3 : Option Value) (y0 : Value) (r : List Value) (σ : zk_S) (sz k c : Nat), zk_run E (zk_VT E) M_X6_unitsInCommon (C_X6_unitsInCommon E) P PX K (n + 1) 4 [some y0, l1, l2, l3] r (σ, sz, k, c) = (zk_isr y0 ∧ zk_run E (zk_VT E) M_X6_unitsInCommon (C_X6_unitsInCommon E) P PX K n 5 [some y0, l1, l2, l3] (y0 :: r) (σ, sz, k, c))) ∧
  (∀ (n : Nat) (l0 l1 l2 l3 : Option Value) (a : Nat) (r : List Value) (σ : zk_S) (sz k c : Nat), zk_run E (zk_VT E) M_X6_unitsInCommon (C_X6_unitsInCommon E) P PX K (n + 1) 5 [l0, l1, l2, l3] (.ref a :: r) (σ, sz, k, c) = zk_fld (zk_view E σ a) [5] 4 (fun v => zk_run E (zk_VT E) M_X6_unitsInCommon (C_X6_unitsInCommon E) P PX K n 8 [l0, l1, l2, l3] (v :: r) (σ, sz, k, c))) ∧
  (∀ (n : Nat) (l0 l1 l2 l3 : Option Value) (x y : Int32) (r : List Value) (σ : zk_S) (sz k c : Nat), zk_run E (zk_VT E) M_X6_unitsInCommon (C_X6_unitsInCommon E) P PX K (n + 1) 8 [l0, l1, l2, l3] (.int y :: .int x :: r) (σ, sz, k, c) = zk_run E (zk_VT E) M_X6_unitsInCommon (C_X6_unitsInCommon E) P PX K n 9 [l0, l1, l2, l3] (.int (x + y) :: r) (σ, sz, k, c)) ∧
  (∀ (n : Nat) (l0 l2 l3 : Option Value) (y1 : Value) (r : List Value) (σ : zk_S) (sz k c : Nat), zk_run E (zk_VT E) M_X6_unitsInCommon (C_X6_unitsInCommon E) P PX K (n + 1) 9 [l0, some y1, l2, l3] r (σ, sz, k, c) = (zk_isr y1 ∧ zk_run E (zk_VT E) M_X6_unitsInCommon (C_X6_unitsInCommon E) P PX K n 10 [l0, some y1, l2, l3] (y1 :: r) (σ, sz, k, c))) ∧
  (∀ (n : Nat) (l0 l1 l2 l3 : Option Value) (a : Nat) (r : List Value) (σ : zk_S) (sz k c : Nat), zk_run E (zk_VT E) M_X6_unitsInCommon (C_X6_unitsInCommon E) P PX K (n + 1) 10 [l0, l1, l2, l3] (.ref a :: r) (σ, sz, k, c) = zk_fld (zk_view E σ a) [5] 2 (fun v => zk_run E (zk_VT E) M_X6_unitsInCommon (C_X6_unitsInCommon E) P PX K n 13 [l0, l1, l2, l3] (v :: r) (σ, sz, k, c))) ∧
  (∀ (n : Nat) (l0 l2 l3 : Option Value) (y1 : Value) (r : List Value) (σ : zk_S) (sz k c : Nat), zk_run E (zk_VT E) M_X6_unitsInCommon (C_X6_unitsInCommon E) P PX K (n + 1) 13 [l0, some y1, l2, l3] r (σ, sz, k, c) = (zk_isr y1 ∧ zk_run E (zk_VT E) M_X6_unitsInCommon (C_X6_unitsInCommon E) P PX K n 14 [l0, some y1, l2, l3] (y1 :: r) (σ, sz, k, c))) ∧
  (∀ (n : Nat) (l0 l1 l2 l3 : Option Value) (a : Nat) (r : List Value) (σ : zk_S) (sz k c : Nat), zk_run E (zk_VT E) M_X6_unitsInCommon (C_X6_unitsInCommon E) P PX K (n + 1) 14 [l0, l1, l2, l3] (.ref a :: r) (σ, sz, k, c) = zk_fld (zk_view E σ a) [5] 4 (fun v => zk_run E (zk_VT E) M_X6_unitsInCommon (C_X6_unitsInCommon E) P PX K n 17 [l0, l1, l2, l3] (v :: r) (σ, sz, k, c))) ∧
  (∀ (n : Nat) (l0 l1 l2 l3 : Option Value) (x y : Int32) (r : List Value) (σ : zk_S) (sz k c : Nat), zk_run E (zk_VT E) M_X6_unitsInCommon (C_X6_unitsInCommon E) P PX K (n + 1) 17 [l0, l1, l2, l3] (.int y :: .int x :: r) (σ, sz, k, c) = zk_run E (zk_VT E) M_X6_unitsInCommon (C_X6_unitsInCommon E) P PX K n 18 [l0, l1, l2, l3] (.int (x + y) :: r) (σ, sz, k, c)) ∧
  (∀ (n : Nat) (l0 l1 l2 l3 : Option Value) (x y : Int32)  (σ : zk_S) (sz k c : Nat), zk_run E (zk_VT E) M_X6_unitsInCommon (C_X6_unitsInCommon E) P PX K (n + 1) 18 [l0, l1, l2, l3] (.int y :: .int x :: []) (σ, sz, k, c) = (([] : List Value).length ≤ 4 ∧ k ≤ 0 ∧ c ≤ 0 ∧ zk_run E (zk_VT E) M_X6_unitsInCommon (C_X6_unitsInCommon E) P PX K n 21 [l0, l1, l2, l3] (.int (i_min x y) :: []) (σ, sz, k, c))) ∧
  (∀ (n : Nat) (l1 l2 l3 : Option Value) (y0 : Value) (r : List Value) (σ : zk_S) (sz k c : Nat), zk_run E (zk_VT E) M_X6_unitsInCommon (C_X6_unitsInCommon E) P PX K (n + 1) 21 [some y0, l1, l2, l3] r (σ, sz, k, c) = (zk_isr y0 ∧ zk_run E (zk_VT E) M_X6_unitsInCommon (C_X6_unitsInCommon E) P PX K n 22 [some y0, l1, l2, l3] (y0 :: r) (σ, sz, k, c))) ∧
  (∀ (n : Nat) (l0 l1 l2 l3 : Option Value) (a : Nat) (r : List Value) (σ : zk_S) (sz k c : Nat), zk_run E (zk_VT E) M_X6_unitsInCommon (C_X6_unitsInCommon E) P PX K (n + 1) 22 [l0, l1, l2, l3] (.ref a :: r) (σ, sz, k, c) = zk_fld (zk_view E σ a) [5] 2 (fun v => zk_run E (zk_VT E) M_X6_unitsInCommon (C_X6_unitsInCommon E) P PX K n 25 [l0, l1, l2, l3] (v :: r) (σ, sz, k, c))) ∧
  (∀ (n : Nat) (l0 l2 l3 : Option Value) (y1 : Value) (r : List Value) (σ : zk_S) (sz k c : Nat), zk_run E (zk_VT E) M_X6_unitsInCommon (C_X6_unitsInCommon E) P PX K (n + 1) 25 [l0, some y1, l2, l3] r (σ, sz, k, c) = (zk_isr y1 ∧ zk_run E (zk_VT E) M_X6_unitsInCommon (C_X6_unitsInCommon E) P PX K n 26 [l0, some y1, l2, l3] (y1 :: r) (σ, sz, k, c))) ∧
  (∀ (n : Nat) (l0 l1 l2 l3 : Option Value) (a : Nat) (r : List Value) (σ : zk_S) (sz k c : Nat), zk_run E (zk_VT E) M_X6_unitsInCommon (C_X6_unitsInCommon E) P PX K (n + 1) 26 [l0, l1, l2, l3] (.ref a :: r) (σ, sz, k, c) = zk_fld (zk_view E σ a) [5] 2 (fun v => zk_run E (zk_VT E) M_X6_unitsInCommon (C_X6_unitsInCommon E) P PX K n 29 [l0, l1, l2, l3] (v :: r) (σ, sz, k, c))) ∧
  (∀ (n : Nat) (l0 l1 l2 l3 : Option Value) (x y : Int32) (v0 : Value)  (σ : zk_S) (sz k c : Nat), zk_run E (zk_VT E) M_X6_unitsInCommon (C_X6_unitsInCommon E) P PX K (n + 1) 29 [l0, l1, l2, l3] (.int y :: .int x :: [v0]) (σ, sz, k, c) = (([v0] : List Value).length ≤ 4 ∧ k ≤ 0 ∧ c ≤ 0 ∧ zk_run E (zk_VT E) M_X6_unitsInCommon (C_X6_unitsInCommon E) P PX K n 32 [l0, l1, l2, l3] (.int (i_max x y) :: [v0]) (σ, sz, k, c))) ∧
  (∀ (n : Nat) (l0 l1 l2 l3 : Option Value) (x y : Int32) (r : List Value) (σ : zk_S) (sz k c : Nat), zk_run E (zk_VT E) M_X6_unitsInCommon (C_X6_unitsInCommon E) P PX K (n + 1) 32 [l0, l1, l2, l3] (.int y :: .int x :: r) (σ, sz, k, c) = zk_run E (zk_VT E) M_X6_unitsInCommon (C_X6_unitsInCommon E) P PX K n 33 [l0, l1, l2, l3] (.int (x - y) :: r) (σ, sz, k, c)) ∧
  (∀ (n : Nat) (l0 l1 l2 l3 : Option Value) (x : Int32) (r : List Value) (σ : zk_S) (sz k c : Nat), zk_run E (zk_VT E) M_X6_unitsInCommon (C_X6_unitsInCommon E) P PX K (n + 1) 33 [l0, l1, l2, l3] (.int x :: r) (σ, sz, k, c) = zk_run E (zk_VT E) M_X6_unitsInCommon (C_X6_unitsInCommon E) P PX K n 34 [l0, zk_kl l1, some (.int x), l3] r (σ, sz, k, c)) ∧
  (∀ (n : Nat) (l1 l2 l3 : Option Value) (y0 : Value) (r : List Value) (σ : zk_S) (sz k c : Nat), zk_run E (zk_VT E) M_X6_unitsInCommon (C_X6_unitsInCommon E) P PX K (n + 1) 34 [some y0, l1, l2, l3] r (σ, sz, k, c) = (zk_isr y0 ∧ zk_run E (zk_VT E) M_X6_unitsInCommon (C_X6_unitsInCommon E) P PX K n 35 [some y0, l1, l2, l3] (y0 :: r) (σ, sz, k, c))) ∧
  (∀ (n : Nat) (l0 l1 l2 l3 : Option Value) (a : Nat) (r : List Value) (σ : zk_S) (sz k c : Nat), zk_run E (zk_VT E) M_X6_unitsInCommon (C_X6_unitsInCommon E) P PX K (n + 1) 35 [l0, l1, l2, l3] (.ref a :: r) (σ, sz, k, c) = zk_fld (zk_view E σ a) [5] 3 (fun v => zk_run E (zk_VT E) M_X6_unitsInCommon (C_X6_unitsInCommon E) P PX K n 38 [l0, l1, l2, l3] (v :: r) (σ, sz, k, c))) ∧
  (∀ (n : Nat) (l1 l2 l3 : Option Value) (y0 : Value) (r : List Value) (σ : zk_S) (sz k c : Nat), zk_run E (zk_VT E) M_X6_unitsInCommon (C_X6_unitsInCommon E) P PX K (n + 1) 38 [some y0, l1, l2, l3] r (σ, sz, k, c) = (zk_isr y0 ∧ zk_run E (zk_VT E) M_X6_unitsInCommon (C_X6_unitsInCommon E) P PX K n 39 [some y0, l1, l2, l3] (y0 :: r) (σ, sz, k, c))) ∧
  (∀ (n : Nat) (l0 l1 l2 l3 : Option Value) (a : Nat) (r : List Value) (σ : zk_S) (sz k c : Nat), zk_run E (zk_VT E) M_X6_unitsInCommon (C_X6_unitsInCommon E) P PX K (n + 1) 39 [l0, l1, l2, l3] (.ref a :: r) (σ, sz, k, c) = zk_fld (zk_view E σ a) [5] 5 (fun v => zk_run E (zk_VT E) M_X6_unitsInCommon (C_X6_unitsInCommon E) P PX K n 42 [l0, l1, l2, l3] (v :: r) (σ, sz, k, c))) ∧
  (∀ (n : Nat) (l0 l1 l2 l3 : Option Value) (x y : Int32) (r : List Value) (σ : zk_S) (sz k c : Nat), zk_run E (zk_VT E) M_X6_unitsInCommon (C_X6_unitsInCommon E) P PX K (n + 1) 42 [l0, l1, l2, l3] (.int y :: .int x :: r) (σ, sz, k, c) = zk_run E (zk_VT E) M_X6_unitsInCommon (C_X6_unitsInCommon E) P PX K n 43 [l0, l1, l2, l3] (.int (x + y) :: r) (σ, sz, k, c)) ∧
  (∀ (n : Nat) (l0 l2 l3 : Option Value) (y1 : Value) (r : List Value) (σ : zk_S) (sz k c : Nat), zk_run E (zk_VT E) M_X6_unitsInCommon (C_X6_unitsInCommon E) P PX K (n + 1) 43 [l0, some y1, l2, l3] r (σ, sz, k, c) = (zk_isr y1 ∧ zk_run E (zk_VT E) M_X6_unitsInCommon (C_X6_unitsInCommon E) P PX K n 44 [l0, some y1, l2, l3] (y1 :: r) (σ, sz, k, c))) ∧
  (∀ (n : Nat) (l0 l1 l2 l3 : Option Value) (a : Nat) (r : List Value) (σ : zk_S) (sz k c : Nat), zk_run E (zk_VT E) M_X6_unitsInCommon (C_X6_unitsInCommon E) P PX K (n + 1) 44 [l0, l1, l2, l3] (.ref a :: r) (σ, sz, k, c) = zk_fld (zk_view E σ a) [5] 3 (fun v => zk_run E (zk_VT E) M_X6_unitsInCommon (C_X6_unitsInCommon E) P PX K n 47 [l0, l1, l2, l3] (v :: r) (σ, sz, k, c))) ∧
  (∀ (n : Nat) (l0 l2 l3 : Option Value) (y1 : Value) (r : List Value) (σ : zk_S) (sz k c : Nat), zk_run E (zk_VT E) M_X6_unitsInCommon (C_X6_unitsInCommon E) P PX K (n + 1) 47 [l0, some y1, l2, l3] r (σ, sz, k, c) = (zk_isr y1 ∧ zk_run E (zk_VT E) M_X6_unitsInCommon (C_X6_unitsInCommon E) P PX K n 48 [l0, some y1, l2, l3] (y1 :: r) (σ, sz, k, c))) ∧
  (∀ (n : Nat) (l0 l1 l2 l3 : Option Value) (a : Nat) (r : List Value) (σ : zk_S) (sz k c : Nat), zk_run E (zk_VT E) M_X6_unitsInCommon (C_X6_unitsInCommon E) P PX K (n + 1) 48 [l0, l1, l2, l3] (.ref a :: r) (σ, sz, k, c) = zk_fld (zk_view E σ a) [5] 5 (fun v => zk_run E (zk_VT E) M_X6_unitsInCommon (C_X6_unitsInCommon E) P PX K n 51 [l0, l1, l2, l3] (v :: r) (σ, sz, k, c))) ∧
  (∀ (n : Nat) (l0 l1 l2 l3 : Option Value) (x y : Int32) (r : List Value) (σ : zk_S) (sz k c : Nat), zk_run E (zk_VT E) M_X6_unitsInCommon (C_X6_unitsInCommon E) P PX K (n + 1) 51 [l0, l1, l2, l3] (.int y :: .int x :: r) (σ, sz, k, c) = zk_run E (zk_VT E) M_X6_unitsInCommon (C_X6_unitsInCommon E) P PX K n 52 [l0, l1, l2, l3] (.int (x + y) :: r) (σ, sz, k, c)) ∧
  (∀ (n : Nat) (l0 l1 l2 l3 : Option Value) (x y : Int32)  (σ : zk_S) (sz k c : Nat), zk_run E (zk_VT E) M_X6_unitsInCommon (C_X6_unitsInCommon E) P PX K (n + 1) 52 [l0, l1, l2, l3] (.int y :: .int x :: []) (σ, sz, k, c) = (([] : List Value).length ≤ 4 ∧ k ≤ 0 ∧ c ≤ 0 ∧ zk_run E (zk_VT E) M_X6_unitsInCommon (C_X6_unitsInCommon E) P PX K n 55 [l0, l1, l2, l3] (.int (i_min x y) :: []) (σ, sz, k, c))) ∧
  (∀ (n : Nat) (l1 l2 l3 : Option Value) (y0 : Value) (r : List Value) (σ : zk_S) (sz k c : Nat), zk_run E (zk_VT E) M_X6_unitsInCommon (C_X6_unitsInCommon E) P PX K (n + 1) 55 [some y0, l1, l2, l3] r (σ, sz, k, c) = (zk_isr y0 ∧ zk_run E (zk_VT E) M_X6_unitsInCommon (C_X6_unitsInCommon E) P PX K n 56 [some y0, l1, l2, l3] (y0 :: r) (σ, sz, k, c))) ∧
  (∀ (n : Nat) (l0 l1 l2 l3 : Option Value) (a : Nat) (r : List Value) (σ : zk_S) (sz k c : Nat), zk_run E (zk_VT E) M_X6_unitsInCommon (C_X6_unitsInCommon E) P PX K (n + 1) 56 [l0, l1, l2, l3] (.ref a :: r) (σ, sz, k, c) = zk_fld (zk_view E σ a) [5] 3 (fun v => zk_run E (zk_VT E) M_X6_unitsInCommon (C_X6_unitsInCommon E) P PX K n 59 [l0, l1, l2, l3] (v :: r) (σ, sz, k, c))) ∧
  (∀ (n : Nat) (l0 l2 l3 : Option Value) (y1 : Value) (r : List Value) (σ : zk_S) (sz k c : Nat), zk_run E (zk_VT E) M_X6_unitsInCommon (C_X6_unitsInCommon E) P PX K (n + 1) 59 [l0, some y1, l2, l3] r (σ, sz, k, c) = (zk_isr y1 ∧ zk_run E (zk_VT E) M_X6_unitsInCommon (C_X6_unitsInCommon E) P PX K n 60 [l0, some y1, l2, l3] (y1 :: r) (σ, sz, k, c))) ∧
  (∀ (n : Nat) (l0 l1 l2 l3 : Option Value) (a : Nat) (r : List Value) (σ : zk_S) (sz k c : Nat), zk_run E (zk_VT E) M_X6_unitsInCommon (C_X6_unitsInCommon E) P PX K (n + 1) 60 [l0, l1, l2, l3] (.ref a :: r) (σ, sz, k, c) = zk_fld (zk_view E σ a) [5] 3 (fun v => zk_run E (zk_VT E) M_X6_unitsInCommon (C_X6_unitsInCommon E) P PX K n 63 [l0, l1, l2, l3] (v :: r) (σ, sz, k, c))) ∧
  (∀ (n : Nat) (l0 l1 l2 l3 : Option Value) (x y : Int32) (v0 : Value)  (σ : zk_S) (sz k c : Nat), zk_run E (zk_VT E) M_X6_unitsInCommon (C_X6_unitsInCommon E) P PX K (n + 1) 63 [l0, l1, l2, l3] (.int y :: .int x :: [v0]) (σ, sz, k, c) = (([v0] : List Value).length ≤ 4 ∧ k ≤ 0 ∧ c ≤ 0 ∧ zk_run E (zk_VT E) M_X6_unitsInCommon (C_X6_unitsInCommon E) P PX K n 66 [l0, l1, l2, l3] (.int (i_max x y) :: [v0]) (σ, sz, k, c))) ∧
  (∀ (n : Nat) (l0 l1 l2 l3 : Option Value) (x y : Int32) (r : List Value) (σ : zk_S) (sz k c : Nat), zk_run E (zk_VT E) M_X6_unitsInCommon (C_X6_unitsInCommon E) P PX K (n + 1) 66 [l0, l1, l2, l3] (.int y :: .int x :: r) (σ, sz, k, c) = zk_run E (zk_VT E) M_X6_unitsInCommon (C_X6_unitsInCommon E) P PX K n 67 [l0, l1, l2, l3] (.int (x - y) :: r) (σ, sz, k, c)) ∧
  (∀ (n : Nat) (l0 l1 l2 l3 : Option Value) (x : Int32) (r : List Value) (σ : zk_S) (sz k c : Nat), zk_run E (zk_VT E) M_X6_unitsInCommon (C_X6_unitsInCommon E) P PX K (n + 1) 67 [l0, l1, l2, l3] (.int x :: r) (σ, sz, k, c) = zk_run E (zk_VT E) M_X6_unitsInCommon (C_X6_unitsInCommon E) P PX K n 68 [l0, l1, zk_kl l2, some (.int x)] r (σ, sz, k, c)) ∧
  (∀ (n : Nat) (l0 l1 l3 : Option Value) (y2 : Int32) (r : List Value) (σ : zk_S) (sz k c : Nat), zk_run E (zk_VT E) M_X6_unitsInCommon (C_X6_unitsInCommon E) P PX K (n + 1) 68 [l0, l1, some (.int y2), l3] r (σ, sz, k, c) = zk_run E (zk_VT E) M_X6_unitsInCommon (C_X6_unitsInCommon E) P PX K n 69 [l0, l1, some (.int y2), l3] (.int y2 :: r) (σ, sz, k, c)) ∧
  (∀ (n : Nat) (l0 l1 l2 l3 : Option Value) (x : Int32) (r : List Value) (σ : zk_S) (sz k c : Nat), zk_run E (zk_VT E) M_X6_unitsInCommon (C_X6_unitsInCommon E) P PX K (n + 1) 69 [l0, l1, l2, l3] (.int x :: r) (σ, sz, k, c) = ((x ≤ 0 → zk_run E (zk_VT E) M_X6_unitsInCommon (C_X6_unitsInCommon E) P PX K n 82 [l0, l1, l2, l3] r (σ, sz, k, c)) ∧ (¬ (x ≤ 0) → zk_run E (zk_VT E) M_X6_unitsInCommon (C_X6_unitsInCommon E) P PX K n 72 [l0, l1, l2, l3] r (σ, sz, k, c)))) ∧
  (∀ (n : Nat) (l0 l1 l2 : Option Value) (y3 : Int32) (r : List Value) (σ : zk_S) (sz k c : Nat), zk_run E (zk_VT E) M_X6_unitsInCommon (C_X6_unitsInCommon E) P PX K (n + 1) 72 [l0, l1, l2, some (.int y3)] r (σ, sz, k, c) = zk_run E (zk_VT E) M_X6_unitsInCommon (C_X6_unitsInCommon E) P PX K n 73 [l0, l1, l2, some (.int y3)] (.int y3 :: r) (σ, sz, k, c)) ∧
  (∀ (n : Nat) (l0 l1 l2 l3 : Option Value) (x : Int32) (r : List Value) (σ : zk_S) (sz k c : Nat), zk_run E (zk_VT E) M_X6_unitsInCommon (C_X6_unitsInCommon E) P PX K (n + 1) 73 [l0, l1, l2, l3] (.int x :: r) (σ, sz, k, c) = ((x ≤ 0 → zk_run E (zk_VT E) M_X6_unitsInCommon (C_X6_unitsInCommon E) P PX K n 82 [l0, l1, l2, l3] r (σ, sz, k, c)) ∧ (¬ (x ≤ 0) → zk_run E (zk_VT E) M_X6_unitsInCommon (C_X6_unitsInCommon E) P PX K n 76 [l0, l1, l2, l3] r (σ, sz, k, c)))) := ⟨by intros; rfl, by intros; rfl, by intros; rfl, by intros; rfl, by intros; rfl, by intros; rfl, by intros; rfl, by intros; rfl, by intros; rfl, by intros; rfl, by intros; rfl, by intros; rfl, by intros; rfl, by intros; rfl, by intros; rfl, by intros; rfl, by intros; rfl, by intros; rfl, by intros; rfl, by intros; rfl, by intros; rfl, by intros; rfl, by intros; rfl, by intros; rfl, by intros; rfl, by intros; rfl, by intros; rfl, by intros; rfl, by intros; rfl, by intros; rfl, by intros; rfl, by intros; rfl, by intros; rfl, by intros; rfl, by intros; rfl, by intros; rfl, by intros; rfl, by intros; rfl, by intros; rfl, by intros; rfl⟩
theorem r_X6_unitsInCommon_1 (E : zk_E) (P : zk_P zk_S) (PX : zk_X zk_S) (K : Nat → zk_L → List Value → zk_W zk_S → Prop) : (∀ (n : Nat) (l0 l1 l3 : Option Value) (y2 : Int32) (r : List Value) (σ : zk_S) (sz k c : Nat), zk_run E (zk_VT E) M_X6_unitsInCommon (C_X6_unitsInCommon E) P PX K (n + 1) 76 [l0, l1, some (.int y2), l3] r (σ, sz, k, c) = zk_run E (zk_VT E) M_X6_unitsInCommon (C_X6_unitsInCommon E) P PX K n 77 [l0, l1, some (.int y2), l3] (.int y2 :: r) (σ, sz, k, c)) ∧
  (∀ (n : Nat) (l0 l1 l2 : Option Value) (y3 : Int32) (r : List Value) (σ : zk_S) (sz k c : Nat), zk_run E (zk_VT E) M_X6_unitsInCommon (C_X6_unitsInCommon E) P PX K (n + 1) 77 [l0, l1, l2, some (.int y3)] r (σ, sz, k, c) = zk_run E (zk_VT E) M_X6_unitsInCommon (C_X6_unitsInCommon E) P PX K n 78 [l0, l1, l2, some (.int y3)] (.int y3 :: r) (σ, sz, k, c)) ∧
  (∀ (n : Nat) (l0 l1 l2 l3 : Option Value) (x y : Int32) (r : List Value) (σ : zk_S) (sz k c : Nat), zk_run E (zk_VT E) M_X6_unitsInCommon (C_X6_unitsInCommon E) P PX K (n + 1) 78 [l0, l1, l2, l3] (.int y :: .int x :: r) (σ, sz, k, c) = zk_run E (zk_VT E) M_X6_unitsInCommon (C_X6_unitsInCommon E) P PX K n 79 [l0, l1, l2, l3] (.int (x * y) :: r) (σ, sz, k, c)) ∧
  (∀ (n : Nat) (l0 l1 l2 l3 : Option Value)  (r : List Value) (σ : zk_S) (sz k c : Nat), zk_run E (zk_VT E) M_X6_unitsInCommon (C_X6_unitsInCommon E) P PX K (n + 1) 79 [l0, l1, l2, l3] r (σ, sz, k, c) = zk_run E (zk_VT E) M_X6_unitsInCommon (C_X6_unitsInCommon E) P PX K n 83 [l0, l1, l2, l3] r (σ, sz, k, c)) ∧
  (∀ (n : Nat) (l0 l1 l2 l3 : Option Value)  (r : List Value) (σ : zk_S) (sz k c : Nat), zk_run E (zk_VT E) M_X6_unitsInCommon (C_X6_unitsInCommon E) P PX K (n + 1) 82 [l0, l1, l2, l3] r (σ, sz, k, c) = zk_run E (zk_VT E) M_X6_unitsInCommon (C_X6_unitsInCommon E) P PX K n 83 [l0, l1, l2, l3] (.int (0) :: r) (σ, sz, k, c)) ∧
  (∀ (n : Nat) (l0 l1 l2 l3 : Option Value) (x : Int32)  (σ : zk_S) (sz k c : Nat), zk_run E (zk_VT E) M_X6_unitsInCommon (C_X6_unitsInCommon E) P PX K (n + 1) 83 [l0, l1, l2, l3] [.int x] (σ, sz, k, c) = (zk_nok (some (.int)) x ∧ P (some (.int x)) σ sz ∧ k ≤ 0 ∧ c ≤ 0)) ∧
  (∀ (n : Nat) (l0 l1 l2 l3 : Option Value) (r : List Value) (w : zk_W zk_S), zk_go E (zk_VT E) M_X6_unitsInCommon (C_X6_unitsInCommon E) P PX K n 0 [l0, l1, l2, l3] r w = zk_run E (zk_VT E) M_X6_unitsInCommon (C_X6_unitsInCommon E) P PX K (n + 1) 0 [l0, l1, l2, l3] r w) := ⟨by intros; rfl, by intros; rfl, by intros; rfl, by intros; rfl, by intros; rfl, by intros; rfl, by intros; rfl⟩
theorem vc_X6_unitsInCommon (E : zk_E) : zk_VC E (zk_VT E) M_X6_unitsInCommon (C_X6_unitsInCommon E) 4 (sp_X6_unitsInCommon E) := by
  intro av σ sz P PX h
  obtain ⟨J, N, Q, O, U⟩ := σ
  unfold sp_X6_unitsInCommon at h
  split at h
  case h_2 => exact h.elim
  rename_i a b
  refine ⟨Nat.le_of_ble_eq_true rfl, fun G hG => ?_⟩
  change G 0 [some (.ref (a)), some (.ref b), none, none] [] ((J, N, Q, O, U), sz, 0, 0)
  try dsimp only at h
  obtain ⟨ha, ⟨r0, r1, x, y, w, hh, r6, r7, hO⟩, hb, ⟨s0, s1, x2, y2, w2, hh2, s6, s7, hO2⟩, h⟩ := h
  rw [hO, hO2] at h
  unfold m_cm at h
  simp only [fI_R] at h
  unfold u_common at h
  unfold cR at hO hO2
  by_cases q1 : 0 < i_min (x + w) (x2 + w2) - i_max x x2
  · by_cases q2 : 0 < i_min (y + hh) (y2 + hh2) - i_max y y2
    · have d1 : (i_min (x + w) (x2 + w2) - i_max x x2 ≤ 0) = False := eq_false (Int32.not_le.mpr q1)
      have d2 : (i_min (y + hh) (y2 + hh2) - i_max y y2 ≤ 0) = False := eq_false (Int32.not_le.mpr q2)
      rw [if_pos ⟨q1, q2⟩] at h
      (refine hG 900 _ _ _ _ ?_; simp only [r_X6_unitsInCommon, r_X6_unitsInCommon_1, zk_vd ha, zk_vd hb, hO, hO2, d1, d2])
      exact h
    · have d1 : (i_min (x + w) (x2 + w2) - i_max x x2 ≤ 0) = False := eq_false (Int32.not_le.mpr q1)
      have d2 : (i_min (y + hh) (y2 + hh2) - i_max y y2 ≤ 0) = True := eq_true (Int32.not_lt.mp q2)
      rw [if_neg (fun z => q2 z.2)] at h
      (refine hG 900 _ _ _ _ ?_; simp only [r_X6_unitsInCommon, r_X6_unitsInCommon_1, zk_vd ha, zk_vd hb, hO, hO2, d1, d2])
      exact h
  · have d1 : (i_min (x + w) (x2 + w2) - i_max x x2 ≤ 0) = True := eq_true (Int32.not_lt.mp q1)
    rw [if_neg (fun z => q1 z.1)] at h
    (refine hG 900 _ _ _ _ ?_; simp only [r_X6_unitsInCommon, r_X6_unitsInCommon_1, zk_vd ha, zk_vd hb, hO, hO2, d1])
    exact h
theorem ct_X6_unitsInCommon {l : Launch} (hl : l.stackTraces = false) (E : zk_E) : zk_C l E (zk_VT E) yX6_unitsInCommon cX6_unitsInCommon 4 (some (.int)) rm_X6_unitsInCommon (sp_X6_unitsInCommon E) := by
  refine zk_meth (M := M_X6_unitsInCommon) (C := C_X6_unitsInCommon E) hl (by decide +kernel) rfl (fun _ _ => rfl) (zk_VT_ok E) MO_X6_unitsInCommon TO_X6_unitsInCommon THo_X6_unitsInCommon ?_ (vc_X6_unitsInCommon E)
  exact fun p e s m args below meth c X pc n mc ms sp2 h => absurd (zk_lka_mem h) List.not_mem_nil


