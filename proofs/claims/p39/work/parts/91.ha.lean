/-! the House: what it holds; draws -/
/-- rows of a kind: the places q r, r < n, hold arrays of len ints, each one of its own, of which G tells -/
def HK (E : zk_E) (sz : Nat) (q : Nat → Option Nat) (O : zk_Hp) (n len : Nat) (G : Nat → (Nat → Int32) → Prop) : Prop := (∀ r, r < n → ∃ a f, q r = some a ∧ OKA E sz a ∧ O a = some (.inl (zk_ar E 0, len, .inl f)) ∧ G r f) ∧ ∀ r r2 a, r < n → r2 < n → q r = some a → q r2 = some a → r = r2
def GRm (N : Nat → Nat → Int32) (r : Nat) (f : Nat → Int32) : Prop := (¬ N 23 r = -2 → f 0 = N 23 r ∧ f 1 = N 24 r ∧ f 2 = N 25 r ∧ f 3 = N 26 r ∧ f 4 = N 27 r ∧ f 5 = N 28 r ∧ f 6 = N 29 r) ∧ (N 23 r = -2 → f 0 = 9 ∧ f 6 = 0)
def GDr (N : Nat → Nat → Int32) (d : Nat) (f : Nat → Int32) : Prop := (¬ N 30 d = -2 → f 0 = N 30 d ∧ f 1 = N 31 d ∧ f 2 = N 32 d ∧ f 3 = N 33 d ∧ f 4 = N 35 d ∧ f 5 = N 34 d ∧ f 6 = N 36 d ∧ f 7 = 0) ∧ (N 30 d = -2 → f 7 = 1)
def GSt (N : Nat → Nat → Int32) (s : Nat) (f : Nat → Int32) : Prop := (¬ N 42 s = -2 → f 0 = N 42 s ∧ f 1 = N 43 s ∧ f 2 = N 44 s ∧ f 3 = N 45 s ∧ f 4 = 0) ∧ (N 42 s = -2 → f 4 = 1)
/-- the House's counts and rows tell of the plan -/
def HN (J1 J : Nat → Nat → Int32) : Prop := J1 22 3 = J 22 1 ∧ J1 22 5 = J 22 9 ∧ J1 22 7 = 0 ∧ J1 22 9 = J 22 23
def HR (E : zk_E) (sz : Nat) (σ : zk_S) (J N : Nat → Nat → Int32) : Prop := HN σ.1 J ∧ HK E sz (σ.2.2.1 23) σ.2.2.2.1 (m_nr J) 7 (GRm N) ∧ HK E sz (σ.2.2.1 24) σ.2.2.2.1 (m_nd J) 8 (GDr N) ∧ HK E sz (σ.2.2.1 26) σ.2.2.2.1 (m_ns J) 5 (GSt N)
/-- the script lies ahead -/
def HU (E : zk_E) (U : zk_U) : Prop := U.1 < E.1 ∧ U.2.1 < 2 ^ 31
/-- all that holds between the House's steps; so many draws were made -/
def HI (E : zk_E) (sz : Nat) (σ : zk_S) (J N : Nat → Nat → Int32) (d : Nat) : Prop := IC E sz σ J N ∧ HR E sz σ J N ∧ HU E σ.2.2.2.2 ∧ σ.1 22 2 = nI d ∧ E.1 + 28 ≤ sz
section HKS
variable {E : zk_E} {sz sz2 : Nat} {q q2 : Nat → Option Nat} {O O2 : zk_Hp} {n len : Nat} {G G2 : Nat → (Nat → Int32) → Prop}
theorem HK.row (h : HK E sz q O n len G) {r : Nat} (hr : r < n) : ∃ a f, q r = some a ∧ OKA E sz a ∧ O a = some (.inl (zk_ar E 0, len, .inl f)) ∧ G r f := h.1 r hr
/-- what keeps the arrays keeps the rows -/
theorem HK.keep (h : HK E sz q O n len G) (hO : ∀ a c m g, a < sz → O a = some (.inl (c, m, .inl g)) → O2 a = O a) (hsz : sz ≤ sz2) : HK E sz2 q O2 n len G :=
  ⟨fun r hr => by
    obtain ⟨a, f, h1, h2, h3, h4⟩ := h.1 r hr
    exact ⟨a, f, h1, ⟨h2.1, Nat.lt_of_lt_of_le h2.2 hsz⟩, (hO a _ _ _ h2.2 h3).trans h3, h4⟩, h.2⟩
theorem HK.mono (h : HK E sz q O n len G) (hG : ∀ r f, r < n → G r f → G2 r f) : HK E sz q O n len G2 :=
  ⟨fun r hr => by
    obtain ⟨a, f, h1, h2, h3, h4⟩ := h.1 r hr
    exact ⟨a, f, h1, h2, h3, hG r f hr h4⟩, h.2⟩
/-- a row of this kind is written -/
theorem HK.set (h : HK E sz q O n len G) {r a : Nat} {f : Nat → Int32} (hr : r < n) (hq : q r = some a) (hG : ∀ r2 g, r2 < n → r2 ≠ r → G r2 g → G2 r2 g) (hf : G2 r f) : HK E sz q (zk_up O a (.inl (zk_ar E 0, len, .inl f))) n len G2 := by
  refine ⟨fun r2 hr2 => ?_, h.2⟩
  obtain ⟨a2, f2, h1, h2, h3, h4⟩ := h.1 r2 hr2
  by_cases w : r2 = r
  · subst w
    rw [hq] at h1
    cases h1
    exact ⟨a, f, hq, h2, by unfold zk_up; rw [if_pos rfl], hf⟩
  · refine ⟨a2, f2, h1, h2, ?_, hG r2 f2 hr2 w h4⟩
    unfold zk_up
    rw [if_neg (fun z => w (h.2 r2 r a hr2 hr (by rw [h1, z]) hq))]
    exact h3
/-- an array of another length is written -/
theorem HK.oth (h : HK E sz q O n len G) {a len2 : Nat} {f g : Nat → Int32} (hO : O a = some (.inl (zk_ar E 0, len2, .inl g))) (hl : len2 ≠ len) : HK E sz q (zk_up O a (.inl (zk_ar E 0, len2, .inl f))) n len G := by
  refine ⟨fun r2 hr2 => ?_, h.2⟩
  obtain ⟨a2, f2, h1, h2, h3, h4⟩ := h.1 r2 hr2
  refine ⟨a2, f2, h1, h2, ?_, h4⟩
  unfold zk_up
  rw [if_neg (fun z => by rw [z, hO] at h3; cases h3; exact hl rfl)]
  exact h3
/-- a row more -/
theorem HK.push (h : HK E sz q O n len G) {a : Nat} {f : Nat → Int32} (ha : OKA E sz a) (hO : O a = some (.inl (zk_ar E 0, len, .inl f))) (hnew : ∀ r, r < n → q r ≠ some a) (hG : ∀ r g, r < n → G r g → G2 r g) (hf : G2 n f) : HK E sz (va_up q n (some a)) O (n + 1) len G2 := by
  refine ⟨fun r hr => ?_, fun r r2 b hr hr2 h1 h2 => ?_⟩
  · by_cases w : r = n
    · subst w
      exact ⟨a, f, vaup_self _ _ _, ha, hO, hf⟩
    · obtain ⟨a2, f2, h1, h2, h3, h4⟩ := h.1 r (by omega)
      exact ⟨a2, f2, by rw [vaup_ne _ _ w]; exact h1, h2, h3, hG r f2 (by omega) h4⟩
  · by_cases w : r = n
    · subst w
      rw [vaup_self] at h1
      by_cases w2 : r2 = r
      · exact w2.symm
      · rw [vaup_ne _ _ w2] at h2
        exact absurd (h2.trans h1.symm) (hnew r2 (by omega))
    · rw [vaup_ne _ _ w] at h1
      by_cases w2 : r2 = n
      · subst w2
        rw [vaup_self] at h2
        exact absurd (h1.trans h2.symm) (hnew r (by omega))
      · rw [vaup_ne _ _ w2] at h2
        exact h.2 r r2 b (by omega) (by omega) h1 h2
end HKS
theorem HR.keep {E : zk_E} {sz sz2 : Nat} {σ σ2 : zk_S} {J N : Nat → Nat → Int32} (h : HR E sz σ J N) (h1 : ∀ o, 22 ≤ o → σ2.1 o = σ.1 o) (h2 : ∀ o, 22 ≤ o → σ2.2.2.1 o = σ.2.2.1 o) (hO : ∀ a c m g, a < sz → σ.2.2.2.1 a = some (.inl (c, m, .inl g)) → σ2.2.2.2.1 a = σ.2.2.2.1 a) (hsz : sz ≤ sz2) : HR E sz2 σ2 J N := by
  obtain ⟨g1, g2, g3, g4⟩ := h
  refine ⟨?_, ?_, ?_, ?_⟩
  · unfold HN at g1 ⊢
    rwa [h1 22 (by decide)]
  · rw [h2 23 (by decide)]; exact g2.keep hO hsz
  · rw [h2 24 (by decide)]; exact g3.keep hO hsz
  · rw [h2 26 (by decide)]; exact g4.keep hO hsz
-- numbers
theorem h_cl : (0 : Int32).toNatClampNeg = 0 ∧ (1 : Int32).toNatClampNeg = 1 ∧ (2 : Int32).toNatClampNeg = 2 ∧ (3 : Int32).toNatClampNeg = 3 ∧ (4 : Int32).toNatClampNeg = 4 ∧ (5 : Int32).toNatClampNeg = 5 ∧ (6 : Int32).toNatClampNeg = 6 ∧ (7 : Int32).toNatClampNeg = 7 ∧ (8 : Int32).toNatClampNeg = 8 := ⟨rfl, rfl, rfl, rfl, rfl, rfl, rfl, rfl, rfl⟩
theorem h_i7 : vp_in 0 7 = True ∧ vp_in 1 7 = True ∧ vp_in 2 7 = True ∧ vp_in 3 7 = True ∧ vp_in 4 7 = True ∧ vp_in 5 7 = True ∧ vp_in 6 7 = True := ⟨zk_vpin 0 7 (by decide) (by decide), zk_vpin 1 7 (by decide) (by decide), zk_vpin 2 7 (by decide) (by decide), zk_vpin 3 7 (by decide) (by decide), zk_vpin 4 7 (by decide) (by decide), zk_vpin 5 7 (by decide) (by decide), zk_vpin 6 7 (by decide) (by decide)⟩
theorem h_i8 : vp_in 0 8 = True ∧ vp_in 1 8 = True ∧ vp_in 2 8 = True ∧ vp_in 3 8 = True ∧ vp_in 4 8 = True ∧ vp_in 5 8 = True ∧ vp_in 6 8 = True ∧ vp_in 7 8 = True := ⟨zk_vpin 0 8 (by decide) (by decide), zk_vpin 1 8 (by decide) (by decide), zk_vpin 2 8 (by decide) (by decide), zk_vpin 3 8 (by decide) (by decide), zk_vpin 4 8 (by decide) (by decide), zk_vpin 5 8 (by decide) (by decide), zk_vpin 6 8 (by decide) (by decide), zk_vpin 7 8 (by decide) (by decide)⟩
theorem h_i5 : vp_in 0 5 = True ∧ vp_in 1 5 = True ∧ vp_in 2 5 = True ∧ vp_in 3 5 = True ∧ vp_in 4 5 = True := ⟨zk_vpin 0 5 (by decide) (by decide), zk_vpin 1 5 (by decide) (by decide), zk_vpin 2 5 (by decide) (by decide), zk_vpin 3 5 (by decide) (by decide), zk_vpin 4 5 (by decide) (by decide)⟩
theorem h_i4 : vp_in 0 4 = True ∧ vp_in 1 4 = True ∧ vp_in 2 4 = True ∧ vp_in 3 4 = True := ⟨zk_vpin 0 4 (by decide) (by decide), zk_vpin 1 4 (by decide) (by decide), zk_vpin 2 4 (by decide) (by decide), zk_vpin 3 4 (by decide) (by decide)⟩
theorem n_rem {a d : Nat} (ha : a < 2 ^ 31) (h0 : 0 < d) (hd : d < 2 ^ 31) : nI a - nI a / nI d * nI d = nI (a % d) := pk_rem ha h0 hd
theorem n_div {a d : Nat} (ha : a < 2 ^ 31) (h0 : 0 < d) (hd : d < 2 ^ 31) : nI a / nI d = nI (a / d) := pk_div ha h0 hd
theorem n_and (v : Int32) : ∃ m : Nat, m < 2 ^ 31 ∧ v &&& 2147483647 = nI m := by
  have h0 : 0 ≤ (v &&& 2147483647).toInt := by
    rw [Int32.toInt]
    have : (v &&& 2147483647).toBitVec.msb = false := by
      rw [Int32.toBitVec_and, BitVec.msb_and]
      have : (2147483647 : Int32).toBitVec.msb = false := by decide
      rw [this, Bool.and_false]
    rw [BitVec.toInt_eq_toNat_of_msb this]
    omega
  have h1 := Int32.toInt_lt (v &&& 2147483647)
  refine ⟨(v &&& 2147483647).toInt.toNat, by omega, ?_⟩
  apply Int32.toInt_inj.mp
  rw [nI_toInt (by omega)]
  omega
theorem zk_lenq_d (E : zk_E) (n : Nat) (f : Nat → Int32) (F : Int32 → Prop) : zk_lenq E (some (.inl (zk_ar E 0, n, .inl f))) F = F (nI n) := by simp [zk_lenq, zk_ar, nI]
theorem zk_vs {E : zk_E} {J N : Nat → Nat → Int32} {Q : Nat → Nat → Option Nat} {O : zk_Hp} {U : zk_U} (h : HU E U) : zk_view E (J, N, Q, O, U) U.1 = some (.inl (zk_ar E 0, U.2.1, .inl U.2.2)) := zk_view_scr (σ := (J, N, Q, O, U)) h.1
def sp_L_below (E : zk_E) : zk_Sp zk_S := fun av σ sz P PX => match av with
  | [.int v, .int n] => ∃ k, n = nI k ∧ 0 < k ∧ k < 2 ^ 31 ∧ ∀ i, i < k → P (some (.int (nI i))) σ sz
  | _ => False
theorem spe_L_below (E : zk_E) (v : Int32) (n : Int32) (σ : zk_S) (sz : Nat) (P : zk_P zk_S) (PX : zk_X zk_S) : sp_L_below E [.int v, .int n] σ sz P PX = (∃ k, n = nI k ∧ 0 < k ∧ k < 2 ^ 31 ∧ ∀ i, i < k → P (some (.int (nI i))) σ sz) := propext Iff.rfl
def C_L_below (E : zk_E) : zk_Cl zk_S := zk_lka []
theorem r_L_below (E : zk_E) (P : zk_P zk_S) (PX : zk_X zk_S) (K : Nat → zk_L → List Value → zk_W zk_S → Prop) : (∀ (n : Nat) (l1 : Option Value) (y0 : Int32) (r : List Value) (σ : zk_S) (sz k c : Nat), zk_run E (zk_VT E) M_L_below (C_L_below E) P PX K (n + 1) 0 [some (.int y0), l1] r (σ, sz, k, c) = zk_run E (zk_VT E) M_L_below (C_L_below E) P PX K n 1 [some (.int y0), l1] (.int y0 :: r) (σ, sz, k, c)) ∧
  (∀ (n : Nat) (l0 l1 : Option Value)  (r : List Value) (σ : zk_S) (sz k c : Nat), zk_run E (zk_VT E) M_L_below (C_L_below E) P PX K (n + 1) 1 [l0, l1] r (σ, sz, k, c) = zk_run E (zk_VT E) M_L_below (C_L_below E) P PX K n 3 [l0, l1] (.int (2147483647) :: r) (σ, sz, k, c)) ∧
  (∀ (n : Nat) (l0 l1 : Option Value) (x y : Int32) (r : List Value) (σ : zk_S) (sz k c : Nat), zk_run E (zk_VT E) M_L_below (C_L_below E) P PX K (n + 1) 3 [l0, l1] (.int y :: .int x :: r) (σ, sz, k, c) = zk_run E (zk_VT E) M_L_below (C_L_below E) P PX K n 4 [l0, l1] (.int (x &&& y) :: r) (σ, sz, k, c)) ∧
  (∀ (n : Nat) (l0 : Option Value) (y1 : Int32) (r : List Value) (σ : zk_S) (sz k c : Nat), zk_run E (zk_VT E) M_L_below (C_L_below E) P PX K (n + 1) 4 [l0, some (.int y1)] r (σ, sz, k, c) = zk_run E (zk_VT E) M_L_below (C_L_below E) P PX K n 5 [l0, some (.int y1)] (.int y1 :: r) (σ, sz, k, c)) ∧
  (∀ (n : Nat) (l0 l1 : Option Value) (x y : Int32) (r : List Value) (σ : zk_S) (sz k c : Nat), zk_run E (zk_VT E) M_L_below (C_L_below E) P PX K (n + 1) 5 [l0, l1] (.int y :: .int x :: r) (σ, sz, k, c) = (¬ y = 0 ∧ zk_run E (zk_VT E) M_L_below (C_L_below E) P PX K n 6 [l0, l1] (.int (x - x / y * y) :: r) (σ, sz, k, c))) ∧
  (∀ (n : Nat) (l0 l1 : Option Value) (x : Int32)  (σ : zk_S) (sz k c : Nat), zk_run E (zk_VT E) M_L_below (C_L_below E) P PX K (n + 1) 6 [l0, l1] [.int x] (σ, sz, k, c) = (zk_nok (some (.int)) x ∧ P (some (.int x)) σ sz ∧ k ≤ 0 ∧ c ≤ 0)) ∧
  (∀ (n : Nat) (l0 l1 : Option Value) (r : List Value) (w : zk_W zk_S), zk_go E (zk_VT E) M_L_below (C_L_below E) P PX K n 0 [l0, l1] r w = zk_run E (zk_VT E) M_L_below (C_L_below E) P PX K (n + 1) 0 [l0, l1] r w) := ⟨by intros; rfl, by intros; rfl, by intros; rfl, by intros; rfl, by intros; rfl, by intros; rfl, by intros; rfl⟩
set_option maxHeartbeats 16000000 in
theorem vc_L_below (E : zk_E) : zk_VC E (zk_VT E) M_L_below (C_L_below E) 2 (sp_L_below E) := by
  intro av σ sz P PX h
  obtain ⟨J, N, Q, O, U⟩ := σ
  unfold sp_L_below at h
  split at h
  case h_2 => exact h.elim
  rename_i v n
  refine ⟨Nat.le_of_ble_eq_true rfl, fun G hG => ?_⟩
  change G 0 [some (.int v), some (.int n)] [] ((J, N, Q, O, U), sz, 0, 0)
  try dsimp only at h
  obtain ⟨k, rfl, h0, h1, h⟩ := h
  obtain ⟨m, hm, em⟩ := n_and v
  have c0 : ¬ nI k = 0 := fun w => by
    rw [show (0 : Int32) = nI 0 from rfl, n_inj h1 (by decide)] at w
    omega
  have h := h (m % k) (Nat.mod_lt m h0)
  (refine hG 900 _ _ _ _ ?_; simp only [r_L_below, zk_kl_none, zk_kl_int, zk_kl_ref, zk_kl_null, zk_kl_long, zk_kl_rf, zk_isr_ref, zk_isr_null, zk_isr_rf9, zk_c1_int, zk_c1_ref, zk_c1_null, zk_c1_rf, zk_psh_some, zk_psh_none, zk_nok_int, zk_nok_bool0, zk_nok_bool1, zk_nok_b, zk_fok_0, zk_fok_1, zk_fok_2, zk_fok_n, zk_fok_rf, zb_f, zb_p, zb_i, zb_a, zb_s, zk_nth_0, zk_nth_s, zk_fld_o, zk_put_o, zk_rv_eq, zk_ri_eq, zk_is_o, List.mem_cons, List.not_mem_nil, or_false, false_or, or_true, true_or, and_true, true_and, not_false_iff, not_true_eq_false, true_implies, false_implies, imp_self, implies_true, forall_const, zk_lit, zk_uj_ap, zk_un_ap, zk_un_un, zk_uj_uj, Nat.reduceEqDiff, eq_self, zk_bq, Bool.true_or, Bool.false_or, Nat.le_refl, Nat.zero_add, Nat.add_zero, Nat.reduceAdd, Nat.reduceLeDiff, Nat.le_zero_eq, and_self, and_false, false_and, ite_true, ite_false, Nat.zero_le, List.length_cons, List.length_nil, Option.some.injEq, forall_eq', reduceCtorEq, em, c0, n_rem hm h0 h1])
  exact h
theorem ct_L_below {l : Launch} (hl : l.stackTraces = false) (E : zk_E) : zk_C l E (zk_VT E) yL_below cL_below 2 (some (.int)) rm_L_below (sp_L_below E) := by
  refine zk_meth (M := M_L_below) (C := C_L_below E) hl (by decide +kernel) rfl (fun _ _ => rfl) (zk_VT_ok E) MO_L_below TO_L_below THo_L_below ?_ (vc_L_below E)
  exact fun p e s m args below meth c X pc n mc ms sp2 h => absurd (zk_lka_mem h) List.not_mem_nil
def sp_L_cell (E : zk_E) : zk_Sp zk_S := fun av σ sz P PX => match av with
  | [.ref s, .int k] => s = σ.2.2.2.2.1 ∧ HU E σ.2.2.2.2 ∧ ∃ j, k = nI j ∧ j < 24 ∧ ∀ x, P (some (.int x)) σ sz
  | _ => False
theorem spe_L_cell (E : zk_E) (s : Nat) (k : Int32) (σ : zk_S) (sz : Nat) (P : zk_P zk_S) (PX : zk_X zk_S) : sp_L_cell E [.ref s, .int k] σ sz P PX = (s = σ.2.2.2.2.1 ∧ HU E σ.2.2.2.2 ∧ ∃ j, k = nI j ∧ j < 24 ∧ ∀ x, P (some (.int x)) σ sz) := propext Iff.rfl
def C_L_cell (E : zk_E) : zk_Cl zk_S := zk_lka []
theorem r_L_cell (E : zk_E) (P : zk_P zk_S) (PX : zk_X zk_S) (K : Nat → zk_L → List Value → zk_W zk_S → Prop) : (∀ (n : Nat) (l0 : Option Value) (y1 : Int32) (r : List Value) (σ : zk_S) (sz k c : Nat), zk_run E (zk_VT E) M_L_cell (C_L_cell E) P PX K (n + 1) 0 [l0, some (.int y1)] r (σ, sz, k, c) = zk_run E (zk_VT E) M_L_cell (C_L_cell E) P PX K n 1 [l0, some (.int y1)] (.int y1 :: r) (σ, sz, k, c)) ∧
  (∀ (n : Nat) (l1 : Option Value) (y0 : Value) (r : List Value) (σ : zk_S) (sz k c : Nat), zk_run E (zk_VT E) M_L_cell (C_L_cell E) P PX K (n + 1) 1 [some y0, l1] r (σ, sz, k, c) = (zk_isr y0 ∧ zk_run E (zk_VT E) M_L_cell (C_L_cell E) P PX K n 2 [some y0, l1] (y0 :: r) (σ, sz, k, c))) ∧
  (∀ (n : Nat) (l0 l1 : Option Value) (a : Nat) (r : List Value) (σ : zk_S) (sz k c : Nat), zk_run E (zk_VT E) M_L_cell (C_L_cell E) P PX K (n + 1) 2 [l0, l1] (.ref a :: r) (σ, sz, k, c) = zk_lenq E (zk_view E σ a) (fun x => zk_run E (zk_VT E) M_L_cell (C_L_cell E) P PX K n 3 [l0, l1] (.int x :: r) (σ, sz, k, c))) ∧
  (∀ (n : Nat) (l0 l1 : Option Value) (x y : Int32) (r : List Value) (σ : zk_S) (sz k c : Nat), zk_run E (zk_VT E) M_L_cell (C_L_cell E) P PX K (n + 1) 3 [l0, l1] (.int y :: .int x :: r) (σ, sz, k, c) = ((y ≤ x → zk_run E (zk_VT E) M_L_cell (C_L_cell E) P PX K n 12 [l0, l1] r (σ, sz, k, c)) ∧ (¬ (y ≤ x) → zk_run E (zk_VT E) M_L_cell (C_L_cell E) P PX K n 6 [l0, l1] r (σ, sz, k, c)))) ∧
  (∀ (n : Nat) (l1 : Option Value) (y0 : Value) (r : List Value) (σ : zk_S) (sz k c : Nat), zk_run E (zk_VT E) M_L_cell (C_L_cell E) P PX K (n + 1) 6 [some y0, l1] r (σ, sz, k, c) = (zk_isr y0 ∧ zk_run E (zk_VT E) M_L_cell (C_L_cell E) P PX K n 7 [some y0, l1] (y0 :: r) (σ, sz, k, c))) ∧
  (∀ (n : Nat) (l0 : Option Value) (y1 : Int32) (r : List Value) (σ : zk_S) (sz k c : Nat), zk_run E (zk_VT E) M_L_cell (C_L_cell E) P PX K (n + 1) 7 [l0, some (.int y1)] r (σ, sz, k, c) = zk_run E (zk_VT E) M_L_cell (C_L_cell E) P PX K n 8 [l0, some (.int y1)] (.int y1 :: r) (σ, sz, k, c)) ∧
  (∀ (n : Nat) (l0 l1 : Option Value) (a : Nat) (i : Int32) (r : List Value) (σ : zk_S) (sz k c : Nat), zk_run E (zk_VT E) M_L_cell (C_L_cell E) P PX K (n + 1) 8 [l0, l1] (.int i :: .ref a :: r) (σ, sz, k, c) = zk_ild (zk_view E σ a) (zk_ar E 0) i (fun x => zk_run E (zk_VT E) M_L_cell (C_L_cell E) P PX K n 9 [l0, l1] (.int x :: r) (σ, sz, k, c))) ∧
  (∀ (n : Nat) (l0 l1 : Option Value)  (r : List Value) (σ : zk_S) (sz k c : Nat), zk_run E (zk_VT E) M_L_cell (C_L_cell E) P PX K (n + 1) 9 [l0, l1] r (σ, sz, k, c) = zk_run E (zk_VT E) M_L_cell (C_L_cell E) P PX K n 18 [l0, l1] r (σ, sz, k, c)) ∧
  (∀ (n : Nat) (l0 l1 : Option Value)  (r : List Value) (σ : zk_S) (sz k c : Nat), zk_run E (zk_VT E) M_L_cell (C_L_cell E) P PX K (n + 1) 12 [l0, l1] r (σ, sz, k, c) = zk_run E (zk_VT E) M_L_cell (C_L_cell E) P PX K n 14 [l0, l1] (.int (790386105) :: r) (σ, sz, k, c)) ∧
  (∀ (n : Nat) (l0 : Option Value) (y1 : Int32) (r : List Value) (σ : zk_S) (sz k c : Nat), zk_run E (zk_VT E) M_L_cell (C_L_cell E) P PX K (n + 1) 14 [l0, some (.int y1)] r (σ, sz, k, c) = zk_run E (zk_VT E) M_L_cell (C_L_cell E) P PX K n 15 [l0, some (.int y1)] (.int y1 :: r) (σ, sz, k, c)) ∧
  (∀ (n : Nat) (l0 l1 : Option Value)  (r : List Value) (σ : zk_S) (sz k c : Nat), zk_run E (zk_VT E) M_L_cell (C_L_cell E) P PX K (n + 1) 15 [l0, l1] r (σ, sz, k, c) = zk_run E (zk_VT E) M_L_cell (C_L_cell E) P PX K n 16 [l0, l1] (.int (3) :: r) (σ, sz, k, c)) ∧
  (∀ (n : Nat) (l0 l1 : Option Value) (x y : Int32) (r : List Value) (σ : zk_S) (sz k c : Nat), zk_run E (zk_VT E) M_L_cell (C_L_cell E) P PX K (n + 1) 16 [l0, l1] (.int y :: .int x :: r) (σ, sz, k, c) = zk_run E (zk_VT E) M_L_cell (C_L_cell E) P PX K n 17 [l0, l1] (.int (x + y) :: r) (σ, sz, k, c)) ∧
  (∀ (n : Nat) (l0 l1 : Option Value) (x y : Int32) (r : List Value) (σ : zk_S) (sz k c : Nat), zk_run E (zk_VT E) M_L_cell (C_L_cell E) P PX K (n + 1) 17 [l0, l1] (.int y :: .int x :: r) (σ, sz, k, c) = zk_run E (zk_VT E) M_L_cell (C_L_cell E) P PX K n 18 [l0, l1] (.int (x * y) :: r) (σ, sz, k, c)) ∧
  (∀ (n : Nat) (l0 l1 : Option Value) (x : Int32)  (σ : zk_S) (sz k c : Nat), zk_run E (zk_VT E) M_L_cell (C_L_cell E) P PX K (n + 1) 18 [l0, l1] [.int x] (σ, sz, k, c) = (zk_nok (some (.int)) x ∧ P (some (.int x)) σ sz ∧ k ≤ 0 ∧ c ≤ 0)) ∧
  (∀ (n : Nat) (l0 l1 : Option Value) (r : List Value) (w : zk_W zk_S), zk_go E (zk_VT E) M_L_cell (C_L_cell E) P PX K n 0 [l0, l1] r w = zk_run E (zk_VT E) M_L_cell (C_L_cell E) P PX K (n + 1) 0 [l0, l1] r w) := ⟨by intros; rfl, by intros; rfl, by intros; rfl, by intros; rfl, by intros; rfl, by intros; rfl, by intros; rfl, by intros; rfl, by intros; rfl, by intros; rfl, by intros; rfl, by intros; rfl, by intros; rfl, by intros; rfl, by intros; rfl⟩
set_option maxHeartbeats 16000000 in
theorem vc_L_cell (E : zk_E) : zk_VC E (zk_VT E) M_L_cell (C_L_cell E) 2 (sp_L_cell E) := by
  intro av σ sz P PX h
  obtain ⟨J, N, Q, O, U⟩ := σ
  unfold sp_L_cell at h
  split at h
  case h_2 => exact h.elim
  rename_i s k
  refine ⟨Nat.le_of_ble_eq_true rfl, fun G hG => ?_⟩
  change G 0 [some (.ref s), some (.int k)] [] ((J, N, Q, O, U), sz, 0, 0)
  try dsimp only at h
  obtain ⟨rfl, hU, j, rfl, hj, h⟩ := h
  by_cases q : j < U.2.1
  · have c1 : ¬ nI U.2.1 ≤ nI j := nI_ge q hU.2
    have hin : vp_in (nI j) U.2.1 := n_in q hU.2
    (refine hG 900 _ _ _ _ ?_; simp only [r_L_cell, zk_kl_none, zk_kl_int, zk_kl_ref, zk_kl_null, zk_kl_long, zk_kl_rf, zk_isr_ref, zk_isr_null, zk_isr_rf9, zk_c1_int, zk_c1_ref, zk_c1_null, zk_c1_rf, zk_psh_some, zk_psh_none, zk_nok_int, zk_nok_bool0, zk_nok_bool1, zk_nok_b, zk_fok_0, zk_fok_1, zk_fok_2, zk_fok_n, zk_fok_rf, zb_f, zb_p, zb_i, zb_a, zb_s, zk_nth_0, zk_nth_s, zk_fld_o, zk_put_o, zk_rv_eq, zk_ri_eq, zk_is_o, List.mem_cons, List.not_mem_nil, or_false, false_or, or_true, true_or, and_true, true_and, not_false_iff, not_true_eq_false, true_implies, false_implies, imp_self, implies_true, forall_const, zk_lit, zk_uj_ap, zk_un_ap, zk_un_un, zk_uj_uj, Nat.reduceEqDiff, eq_self, zk_bq, Bool.true_or, Bool.false_or, Nat.le_refl, Nat.zero_add, Nat.add_zero, Nat.reduceAdd, Nat.reduceLeDiff, Nat.le_zero_eq, and_self, and_false, false_and, ite_true, ite_false, Nat.zero_le, List.length_cons, List.length_nil, Option.some.injEq, forall_eq', reduceCtorEq, zk_vs hU, zk_lenq_d, c1, hin, zk_ild_d])
    exact h _
  · have c1 : nI U.2.1 ≤ nI j := nI_le (by omega) (by omega)
    (refine hG 900 _ _ _ _ ?_; simp only [r_L_cell, zk_kl_none, zk_kl_int, zk_kl_ref, zk_kl_null, zk_kl_long, zk_kl_rf, zk_isr_ref, zk_isr_null, zk_isr_rf9, zk_c1_int, zk_c1_ref, zk_c1_null, zk_c1_rf, zk_psh_some, zk_psh_none, zk_nok_int, zk_nok_bool0, zk_nok_bool1, zk_nok_b, zk_fok_0, zk_fok_1, zk_fok_2, zk_fok_n, zk_fok_rf, zb_f, zb_p, zb_i, zb_a, zb_s, zk_nth_0, zk_nth_s, zk_fld_o, zk_put_o, zk_rv_eq, zk_ri_eq, zk_is_o, List.mem_cons, List.not_mem_nil, or_false, false_or, or_true, true_or, and_true, true_and, not_false_iff, not_true_eq_false, true_implies, false_implies, imp_self, implies_true, forall_const, zk_lit, zk_uj_ap, zk_un_ap, zk_un_un, zk_uj_uj, Nat.reduceEqDiff, eq_self, zk_bq, Bool.true_or, Bool.false_or, Nat.le_refl, Nat.zero_add, Nat.add_zero, Nat.reduceAdd, Nat.reduceLeDiff, Nat.le_zero_eq, and_self, and_false, false_and, ite_true, ite_false, Nat.zero_le, List.length_cons, List.length_nil, Option.some.injEq, forall_eq', reduceCtorEq, zk_vs hU, zk_lenq_d, c1])
    exact h _
theorem ct_L_cell {l : Launch} (hl : l.stackTraces = false) (E : zk_E) : zk_C l E (zk_VT E) yL_cell cL_cell 2 (some (.int)) rm_L_cell (sp_L_cell E) := by
  refine zk_meth (M := M_L_cell) (C := C_L_cell E) hl (by decide +kernel) rfl (fun _ _ => rfl) (zk_VT_ok E) MO_L_cell TO_L_cell THo_L_cell ?_ (vc_L_cell E)
  exact fun p e s m args below meth c X pc n mc ms sp2 h => absurd (zk_lka_mem h) List.not_mem_nil
def sp_X11_draw (E : zk_E) : zk_Sp zk_S := fun av σ sz P PX => match av with
  | [.ref a, .int n] => a = zk_ad E 22 ∧ HU E σ.2.2.2.2 ∧ ∃ d k, σ.1 22 2 = nI d ∧ d < 1000000 ∧ n = nI k ∧ 0 < k ∧ k < 2 ^ 31 ∧ ∀ i, i < k → P (some (.int (nI i))) (zk_uj σ.1 22 2 (nI (d + 1)), σ.2) sz
  | _ => False
theorem spe_X11_draw (E : zk_E) (a : Nat) (n : Int32) (σ : zk_S) (sz : Nat) (P : zk_P zk_S) (PX : zk_X zk_S) : sp_X11_draw E [.ref a, .int n] σ sz P PX = (a = zk_ad E 22 ∧ HU E σ.2.2.2.2 ∧ ∃ d k, σ.1 22 2 = nI d ∧ d < 1000000 ∧ n = nI k ∧ 0 < k ∧ k < 2 ^ 31 ∧ ∀ i, i < k → P (some (.int (nI i))) (zk_uj σ.1 22 2 (nI (d + 1)), σ.2) sz) := propext Iff.rfl
def C_X11_draw (E : zk_E) : zk_Cl zk_S := zk_lka [(11, 2, 0, 0, sp_L_cell E), (34, 2, 0, 0, sp_L_below E)]
theorem r_X11_draw (E : zk_E) (P : zk_P zk_S) (PX : zk_X zk_S) (K : Nat → zk_L → List Value → zk_W zk_S → Prop) : (∀ (n : Nat) (l1 l2 : Option Value) (y0 : Value) (r : List Value) (σ : zk_S) (sz k c : Nat), zk_run E (zk_VT E) M_X11_draw (C_X11_draw E) P PX K (n + 1) 0 [some y0, l1, l2] r (σ, sz, k, c) = (zk_isr y0 ∧ zk_run E (zk_VT E) M_X11_draw (C_X11_draw E) P PX K n 1 [some y0, l1, l2] (y0 :: r) (σ, sz, k, c))) ∧
  (∀ (n : Nat) (l0 l1 l2 : Option Value) (a : Nat) (r : List Value) (σ : zk_S) (sz k c : Nat), zk_run E (zk_VT E) M_X11_draw (C_X11_draw E) P PX K (n + 1) 1 [l0, l1, l2] (.ref a :: r) (σ, sz, k, c) = zk_fld (zk_view E σ a) [10] 1 (fun v => zk_run E (zk_VT E) M_X11_draw (C_X11_draw E) P PX K n 4 [l0, l1, l2] (v :: r) (σ, sz, k, c))) ∧
  (∀ (n : Nat) (l1 l2 : Option Value) (y0 : Value) (r : List Value) (σ : zk_S) (sz k c : Nat), zk_run E (zk_VT E) M_X11_draw (C_X11_draw E) P PX K (n + 1) 4 [some y0, l1, l2] r (σ, sz, k, c) = (zk_isr y0 ∧ zk_run E (zk_VT E) M_X11_draw (C_X11_draw E) P PX K n 5 [some y0, l1, l2] (y0 :: r) (σ, sz, k, c))) ∧
  (∀ (n : Nat) (l0 l1 l2 : Option Value) (a : Nat) (r : List Value) (σ : zk_S) (sz k c : Nat), zk_run E (zk_VT E) M_X11_draw (C_X11_draw E) P PX K (n + 1) 5 [l0, l1, l2] (.ref a :: r) (σ, sz, k, c) = zk_fld (zk_view E σ a) [10] 2 (fun v => zk_run E (zk_VT E) M_X11_draw (C_X11_draw E) P PX K n 8 [l0, l1, l2] (v :: r) (σ, sz, k, c))) ∧
  (∀ (n : Nat) (l0 l1 l2 : Option Value)  (r : List Value) (σ : zk_S) (sz k c : Nat), zk_run E (zk_VT E) M_X11_draw (C_X11_draw E) P PX K (n + 1) 8 [l0, l1, l2] r (σ, sz, k, c) = zk_run E (zk_VT E) M_X11_draw (C_X11_draw E) P PX K n 10 [l0, l1, l2] (.int (24) :: r) (σ, sz, k, c)) ∧
  (∀ (n : Nat) (l0 l1 l2 : Option Value) (x y : Int32) (r : List Value) (σ : zk_S) (sz k c : Nat), zk_run E (zk_VT E) M_X11_draw (C_X11_draw E) P PX K (n + 1) 10 [l0, l1, l2] (.int y :: .int x :: r) (σ, sz, k, c) = (¬ y = 0 ∧ zk_run E (zk_VT E) M_X11_draw (C_X11_draw E) P PX K n 11 [l0, l1, l2] (.int (x - x / y * y) :: r) (σ, sz, k, c))) ∧
  (∀ (n : Nat) (l0 l1 l2 : Option Value) (v0 : Value) (v1 : Value)  (σ : zk_S) (sz k c : Nat), zk_run E (zk_VT E) M_X11_draw (C_X11_draw E) P PX K (n + 1) 11 [l0, l1, l2] [v0, v1] (σ, sz, k, c) = (k + 0 ≤ 0 ∧ c + 0 ≤ 0 ∧ (sp_L_cell E) [v1, v0] σ sz (fun v s2 z2 => zk_run E (zk_VT E) M_X11_draw (C_X11_draw E) P PX K n 14 [l0, l1, l2] (zk_psh v []) (s2, z2, k + 0, c + 0)) (fun X s2 z2 => PX X s2 z2))) ∧
  (∀ (n : Nat) (l1 l2 : Option Value) (y0 : Value) (r : List Value) (σ : zk_S) (sz k c : Nat), zk_run E (zk_VT E) M_X11_draw (C_X11_draw E) P PX K (n + 1) 14 [some y0, l1, l2] r (σ, sz, k, c) = (zk_isr y0 ∧ zk_run E (zk_VT E) M_X11_draw (C_X11_draw E) P PX K n 15 [some y0, l1, l2] (y0 :: r) (σ, sz, k, c))) ∧
  (∀ (n : Nat) (l0 l1 l2 : Option Value) (a : Nat) (r : List Value) (σ : zk_S) (sz k c : Nat), zk_run E (zk_VT E) M_X11_draw (C_X11_draw E) P PX K (n + 1) 15 [l0, l1, l2] (.ref a :: r) (σ, sz, k, c) = zk_fld (zk_view E σ a) [10] 2 (fun v => zk_run E (zk_VT E) M_X11_draw (C_X11_draw E) P PX K n 18 [l0, l1, l2] (v :: r) (σ, sz, k, c))) ∧
  (∀ (n : Nat) (l0 l1 l2 : Option Value)  (r : List Value) (σ : zk_S) (sz k c : Nat), zk_run E (zk_VT E) M_X11_draw (C_X11_draw E) P PX K (n + 1) 18 [l0, l1, l2] r (σ, sz, k, c) = zk_run E (zk_VT E) M_X11_draw (C_X11_draw E) P PX K n 20 [l0, l1, l2] (.int (24) :: r) (σ, sz, k, c)) ∧
  (∀ (n : Nat) (l0 l1 l2 : Option Value) (x y : Int32) (r : List Value) (σ : zk_S) (sz k c : Nat), zk_run E (zk_VT E) M_X11_draw (C_X11_draw E) P PX K (n + 1) 20 [l0, l1, l2] (.int y :: .int x :: r) (σ, sz, k, c) = (¬ y = 0 ∧ zk_run E (zk_VT E) M_X11_draw (C_X11_draw E) P PX K n 21 [l0, l1, l2] (.int (x / y) :: r) (σ, sz, k, c))) ∧
  (∀ (n : Nat) (l0 l1 l2 : Option Value)  (r : List Value) (σ : zk_S) (sz k c : Nat), zk_run E (zk_VT E) M_X11_draw (C_X11_draw E) P PX K (n + 1) 21 [l0, l1, l2] r (σ, sz, k, c) = zk_run E (zk_VT E) M_X11_draw (C_X11_draw E) P PX K n 23 [l0, l1, l2] (.int (8) :: r) (σ, sz, k, c)) ∧
  (∀ (n : Nat) (l0 l1 l2 : Option Value) (x y : Int32) (r : List Value) (σ : zk_S) (sz k c : Nat), zk_run E (zk_VT E) M_X11_draw (C_X11_draw E) P PX K (n + 1) 23 [l0, l1, l2] (.int y :: .int x :: r) (σ, sz, k, c) = (¬ y = 0 ∧ zk_run E (zk_VT E) M_X11_draw (C_X11_draw E) P PX K n 24 [l0, l1, l2] (.int (x - x / y * y) :: r) (σ, sz, k, c))) ∧
  (∀ (n : Nat) (l0 l1 l2 : Option Value) (x y : Int32) (r : List Value) (σ : zk_S) (sz k c : Nat), zk_run E (zk_VT E) M_X11_draw (C_X11_draw E) P PX K (n + 1) 24 [l0, l1, l2] (.int y :: .int x :: r) (σ, sz, k, c) = zk_run E (zk_VT E) M_X11_draw (C_X11_draw E) P PX K n 25 [l0, l1, l2] (.int (x >>> (y &&& 31)) :: r) (σ, sz, k, c)) ∧
  (∀ (n : Nat) (l0 l1 l2 : Option Value)  (r : List Value) (σ : zk_S) (sz k c : Nat), zk_run E (zk_VT E) M_X11_draw (C_X11_draw E) P PX K (n + 1) 25 [l0, l1, l2] r (σ, sz, k, c) = zk_run E (zk_VT E) M_X11_draw (C_X11_draw E) P PX K n 27 [l0, l1, l2] (.int (101) :: r) (σ, sz, k, c)) ∧
  (∀ (n : Nat) (l1 l2 : Option Value) (y0 : Value) (r : List Value) (σ : zk_S) (sz k c : Nat), zk_run E (zk_VT E) M_X11_draw (C_X11_draw E) P PX K (n + 1) 27 [some y0, l1, l2] r (σ, sz, k, c) = (zk_isr y0 ∧ zk_run E (zk_VT E) M_X11_draw (C_X11_draw E) P PX K n 28 [some y0, l1, l2] (y0 :: r) (σ, sz, k, c))) ∧
  (∀ (n : Nat) (l0 l1 l2 : Option Value) (a : Nat) (r : List Value) (σ : zk_S) (sz k c : Nat), zk_run E (zk_VT E) M_X11_draw (C_X11_draw E) P PX K (n + 1) 28 [l0, l1, l2] (.ref a :: r) (σ, sz, k, c) = zk_fld (zk_view E σ a) [10] 2 (fun v => zk_run E (zk_VT E) M_X11_draw (C_X11_draw E) P PX K n 31 [l0, l1, l2] (v :: r) (σ, sz, k, c))) ∧
  (∀ (n : Nat) (l0 l1 l2 : Option Value) (x y : Int32) (r : List Value) (σ : zk_S) (sz k c : Nat), zk_run E (zk_VT E) M_X11_draw (C_X11_draw E) P PX K (n + 1) 31 [l0, l1, l2] (.int y :: .int x :: r) (σ, sz, k, c) = zk_run E (zk_VT E) M_X11_draw (C_X11_draw E) P PX K n 32 [l0, l1, l2] (.int (x * y) :: r) (σ, sz, k, c)) ∧
  (∀ (n : Nat) (l0 l1 l2 : Option Value) (x y : Int32) (r : List Value) (σ : zk_S) (sz k c : Nat), zk_run E (zk_VT E) M_X11_draw (C_X11_draw E) P PX K (n + 1) 32 [l0, l1, l2] (.int y :: .int x :: r) (σ, sz, k, c) = zk_run E (zk_VT E) M_X11_draw (C_X11_draw E) P PX K n 33 [l0, l1, l2] (.int (x + y) :: r) (σ, sz, k, c)) ∧
  (∀ (n : Nat) (l0 l2 : Option Value) (y1 : Int32) (r : List Value) (σ : zk_S) (sz k c : Nat), zk_run E (zk_VT E) M_X11_draw (C_X11_draw E) P PX K (n + 1) 33 [l0, some (.int y1), l2] r (σ, sz, k, c) = zk_run E (zk_VT E) M_X11_draw (C_X11_draw E) P PX K n 34 [l0, some (.int y1), l2] (.int y1 :: r) (σ, sz, k, c)) ∧
  (∀ (n : Nat) (l0 l1 l2 : Option Value) (v0 : Value) (v1 : Value)  (σ : zk_S) (sz k c : Nat), zk_run E (zk_VT E) M_X11_draw (C_X11_draw E) P PX K (n + 1) 34 [l0, l1, l2] [v0, v1] (σ, sz, k, c) = (k + 0 ≤ 0 ∧ c + 0 ≤ 0 ∧ (sp_L_below E) [v1, v0] σ sz (fun v s2 z2 => zk_run E (zk_VT E) M_X11_draw (C_X11_draw E) P PX K n 37 [l0, l1, l2] (zk_psh v []) (s2, z2, k + 0, c + 0)) (fun X s2 z2 => PX X s2 z2))) ∧
  (∀ (n : Nat) (l0 l1 l2 : Option Value) (x : Int32) (r : List Value) (σ : zk_S) (sz k c : Nat), zk_run E (zk_VT E) M_X11_draw (C_X11_draw E) P PX K (n + 1) 37 [l0, l1, l2] (.int x :: r) (σ, sz, k, c) = zk_run E (zk_VT E) M_X11_draw (C_X11_draw E) P PX K n 38 [l0, zk_kl l1, some (.int x)] r (σ, sz, k, c)) ∧
  (∀ (n : Nat) (l1 l2 : Option Value) (y0 : Value) (r : List Value) (σ : zk_S) (sz k c : Nat), zk_run E (zk_VT E) M_X11_draw (C_X11_draw E) P PX K (n + 1) 38 [some y0, l1, l2] r (σ, sz, k, c) = (zk_isr y0 ∧ zk_run E (zk_VT E) M_X11_draw (C_X11_draw E) P PX K n 39 [some y0, l1, l2] (y0 :: r) (σ, sz, k, c))) ∧
  (∀ (n : Nat) (l0 l1 l2 : Option Value) (v : Value) (r : List Value) (σ : zk_S) (sz k c : Nat), zk_run E (zk_VT E) M_X11_draw (C_X11_draw E) P PX K (n + 1) 39 [l0, l1, l2] (v :: r) (σ, sz, k, c) = (zk_c1 v ∧ zk_run E (zk_VT E) M_X11_draw (C_X11_draw E) P PX K n 40 [l0, l1, l2] (v :: v :: r) (σ, sz, k, c))) ∧
  (∀ (n : Nat) (l0 l1 l2 : Option Value) (a : Nat) (r : List Value) (σ : zk_S) (sz k c : Nat), zk_run E (zk_VT E) M_X11_draw (C_X11_draw E) P PX K (n + 1) 40 [l0, l1, l2] (.ref a :: r) (σ, sz, k, c) = zk_fld (zk_view E σ a) [10] 2 (fun v => zk_run E (zk_VT E) M_X11_draw (C_X11_draw E) P PX K n 43 [l0, l1, l2] (v :: r) (σ, sz, k, c))) ∧
  (∀ (n : Nat) (l0 l1 l2 : Option Value)  (r : List Value) (σ : zk_S) (sz k c : Nat), zk_run E (zk_VT E) M_X11_draw (C_X11_draw E) P PX K (n + 1) 43 [l0, l1, l2] r (σ, sz, k, c) = zk_run E (zk_VT E) M_X11_draw (C_X11_draw E) P PX K n 44 [l0, l1, l2] (.int (1) :: r) (σ, sz, k, c)) ∧
  (∀ (n : Nat) (l0 l1 l2 : Option Value) (x y : Int32) (r : List Value) (σ : zk_S) (sz k c : Nat), zk_run E (zk_VT E) M_X11_draw (C_X11_draw E) P PX K (n + 1) 44 [l0, l1, l2] (.int y :: .int x :: r) (σ, sz, k, c) = zk_run E (zk_VT E) M_X11_draw (C_X11_draw E) P PX K n 45 [l0, l1, l2] (.int (x + y) :: r) (σ, sz, k, c)) ∧
  (∀ (n : Nat) (l0 l1 l2 : Option Value) (a : Nat) (v : Value) (r : List Value) (σ : zk_S) (sz k c : Nat), zk_run E (zk_VT E) M_X11_draw (C_X11_draw E) P PX K (n + 1) 45 [l0, l1, l2] (v :: .ref a :: r) (σ, sz, k, c) = zk_put (zk_view E σ a) [10] 2 0 v (zk_pfok E σ a 2 v ∧ zk_run E (zk_VT E) M_X11_draw (C_X11_draw E) P PX K n 48 [l0, l1, l2] r (zk_pf E σ a 2 v, sz, k, c))) ∧
  (∀ (n : Nat) (l0 l1 : Option Value) (y2 : Int32) (r : List Value) (σ : zk_S) (sz k c : Nat), zk_run E (zk_VT E) M_X11_draw (C_X11_draw E) P PX K (n + 1) 48 [l0, l1, some (.int y2)] r (σ, sz, k, c) = zk_run E (zk_VT E) M_X11_draw (C_X11_draw E) P PX K n 49 [l0, l1, some (.int y2)] (.int y2 :: r) (σ, sz, k, c)) ∧
  (∀ (n : Nat) (l0 l1 l2 : Option Value) (x : Int32)  (σ : zk_S) (sz k c : Nat), zk_run E (zk_VT E) M_X11_draw (C_X11_draw E) P PX K (n + 1) 49 [l0, l1, l2] [.int x] (σ, sz, k, c) = (zk_nok (some (.int)) x ∧ P (some (.int x)) σ sz ∧ k ≤ 0 ∧ c ≤ 0)) ∧
  (∀ (n : Nat) (l0 l1 l2 : Option Value) (r : List Value) (w : zk_W zk_S), zk_go E (zk_VT E) M_X11_draw (C_X11_draw E) P PX K n 0 [l0, l1, l2] r w = zk_run E (zk_VT E) M_X11_draw (C_X11_draw E) P PX K (n + 1) 0 [l0, l1, l2] r w) := ⟨by intros; rfl, by intros; rfl, by intros; rfl, by intros; rfl, by intros; rfl, by intros; rfl, by intros; rfl, by intros; rfl, by intros; rfl, by intros; rfl, by intros; rfl, by intros; rfl, by intros; rfl, by intros; rfl, by intros; rfl, by intros; rfl, by intros; rfl, by intros; rfl, by intros; rfl, by intros; rfl, by intros; rfl, by intros; rfl, by intros; rfl, by intros; rfl, by intros; rfl, by intros; rfl, by intros; rfl, by intros; rfl, by intros; rfl, by intros; rfl, by intros; rfl⟩
set_option maxHeartbeats 16000000 in
theorem vc_X11_draw (E : zk_E) : zk_VC E (zk_VT E) M_X11_draw (C_X11_draw E) 3 (sp_X11_draw E) := by
  intro av σ sz P PX h
  obtain ⟨J, N, Q, O, U⟩ := σ
  unfold sp_X11_draw at h
  split at h
  case h_2 => exact h.elim
  rename_i a0 n
  obtain ⟨rfl, h⟩ := h
  refine ⟨Nat.le_of_ble_eq_true rfl, fun G hG => ?_⟩
  change G 0 [some (.ref (zk_ad E 22)), some (.int n), none] [] ((J, N, Q, O, U), sz, 0, 0)
  try dsimp only at h
  obtain ⟨hU, d, k, hd, hd2, rfl, h0, h1, h⟩ := h
  have hd : J 22 2 = nI d := hd
  have e24 : (24 : Int32) = nI 24 := rfl
  have e8 : (8 : Int32) = nI 8 := rfl
  have r24 : nI d - nI d / nI 24 * nI 24 = nI (d % 24) := n_rem (by omega) (by decide) (by decide)
  have d24 : nI d / nI 24 = nI (d / 24) := n_div (by omega) (by decide) (by decide)
  have r8 : nI (d / 24) - nI (d / 24) / nI 8 * nI 8 = nI (d / 24 % 8) := n_rem (by omega) (by decide) (by decide)
  have c24 : ¬ nI 24 = 0 := by decide
  have c8 : ¬ nI 8 = 0 := by decide
  (refine hG 900 _ _ _ _ ?_; simp only [r_X11_draw, zk_kl_none, zk_kl_int, zk_kl_ref, zk_kl_null, zk_kl_long, zk_kl_rf, zk_isr_ref, zk_isr_null, zk_isr_rf9, zk_c1_int, zk_c1_ref, zk_c1_null, zk_c1_rf, zk_psh_some, zk_psh_none, zk_nok_int, zk_nok_bool0, zk_nok_bool1, zk_nok_b, zk_fok_0, zk_fok_1, zk_fok_2, zk_fok_n, zk_fok_rf, zb_f, zb_p, zb_i, zb_a, zb_s, zk_nth_0, zk_nth_s, zk_fld_o, zk_put_o, zk_rv_eq, zk_ri_eq, zk_is_o, List.mem_cons, List.not_mem_nil, or_false, false_or, or_true, true_or, and_true, true_and, not_false_iff, not_true_eq_false, true_implies, false_implies, imp_self, implies_true, forall_const, zk_lit, zk_uj_ap, zk_un_ap, zk_un_un, zk_uj_uj, Nat.reduceEqDiff, eq_self, zk_bq, Bool.true_or, Bool.false_or, Nat.le_refl, Nat.zero_add, Nat.add_zero, Nat.reduceAdd, Nat.reduceLeDiff, Nat.le_zero_eq, and_self, and_false, false_and, ite_true, ite_false, Nat.zero_le, List.length_cons, List.length_nil, Option.some.injEq, forall_eq', reduceCtorEq, hd, e24, e8, r24, c24, spe_L_cell])
  refine ⟨hU, _, rfl, Nat.mod_lt d (by decide), fun x => ?_⟩
  simp only [r_X11_draw, zk_kl_none, zk_kl_int, zk_kl_ref, zk_kl_null, zk_kl_long, zk_kl_rf, zk_isr_ref, zk_isr_null, zk_isr_rf9, zk_c1_int, zk_c1_ref, zk_c1_null, zk_c1_rf, zk_psh_some, zk_psh_none, zk_nok_int, zk_nok_bool0, zk_nok_bool1, zk_nok_b, zk_fok_0, zk_fok_1, zk_fok_2, zk_fok_n, zk_fok_rf, zb_f, zb_p, zb_i, zb_a, zb_s, zk_nth_0, zk_nth_s, zk_fld_o, zk_put_o, zk_rv_eq, zk_ri_eq, zk_is_o, List.mem_cons, List.not_mem_nil, or_false, false_or, or_true, true_or, and_true, true_and, not_false_iff, not_true_eq_false, true_implies, false_implies, imp_self, implies_true, forall_const, zk_lit, zk_uj_ap, zk_un_ap, zk_un_un, zk_uj_uj, Nat.reduceEqDiff, eq_self, zk_bq, Bool.true_or, Bool.false_or, Nat.le_refl, Nat.zero_add, Nat.add_zero, Nat.reduceAdd, Nat.reduceLeDiff, Nat.le_zero_eq, and_self, and_false, false_and, ite_true, ite_false, Nat.zero_le, List.length_cons, List.length_nil, Option.some.injEq, forall_eq', reduceCtorEq, hd, d24, r8, c8, c24, e24, e8, spe_L_below]
  refine ⟨k, rfl, h0, h1, fun i hi => ?_⟩
  have h := h i hi
  simp only [r_X11_draw, zk_kl_none, zk_kl_int, zk_kl_ref, zk_kl_null, zk_kl_long, zk_kl_rf, zk_isr_ref, zk_isr_null, zk_isr_rf9, zk_c1_int, zk_c1_ref, zk_c1_null, zk_c1_rf, zk_psh_some, zk_psh_none, zk_nok_int, zk_nok_bool0, zk_nok_bool1, zk_nok_b, zk_fok_0, zk_fok_1, zk_fok_2, zk_fok_n, zk_fok_rf, zb_f, zb_p, zb_i, zb_a, zb_s, zk_nth_0, zk_nth_s, zk_fld_o, zk_put_o, zk_rv_eq, zk_ri_eq, zk_is_o, List.mem_cons, List.not_mem_nil, or_false, false_or, or_true, true_or, and_true, true_and, not_false_iff, not_true_eq_false, true_implies, false_implies, imp_self, implies_true, forall_const, zk_lit, zk_uj_ap, zk_un_ap, zk_un_un, zk_uj_uj, Nat.reduceEqDiff, eq_self, zk_bq, Bool.true_or, Bool.false_or, Nat.le_refl, Nat.zero_add, Nat.add_zero, Nat.reduceAdd, Nat.reduceLeDiff, Nat.le_zero_eq, and_self, and_false, false_and, ite_true, ite_false, Nat.zero_le, List.length_cons, List.length_nil, Option.some.injEq, forall_eq', reduceCtorEq, hd, n_succ]
  exact h
theorem ct_X11_draw {l : Launch} (hl : l.stackTraces = false) (E : zk_E) : zk_C l E (zk_VT E) yX11_draw cX11_draw 3 (some (.int)) rm_X11_draw (sp_X11_draw E) := by
  refine zk_meth (M := M_X11_draw) (C := C_X11_draw E) hl (by decide +kernel) rfl (fun _ _ => rfl) (zk_VT_ok E) MO_X11_draw TO_X11_draw THo_X11_draw ?_ (vc_X11_draw E)
  exact fun p e s m args below meth c X pc n mc ms sp2 h => by
    have h2 := zk_lka_mem h
    simp only [List.mem_cons, List.not_mem_nil, or_false, Prod.mk.injEq] at h2
    rcases h2 with ⟨rfl, rfl, rfl, rfl, rfl⟩ | ⟨rfl, rfl, rfl, rfl, rfl⟩
    · exact zk_coSN (idx := 41) (host := "ClerestoryPlanLaw") X (ct_L_cell hl E) (List.forall_mem_cons.mpr ⟨zk_wi 622 (by decide +kernel) rfl, List.forall_mem_cons.mpr ⟨zk_wi 0 (by decide +kernel) rfl, List.forall_mem_cons.mpr ⟨zk_wi 623 (by decide +kernel) rfl, fun _ h => absurd h List.not_mem_nil⟩⟩⟩) (zk_tb 621 (by decide +kernel)) (by decide +kernel) ⟨by decide, by decide, by decide +kernel⟩ ⟨by decide, by decide⟩
    · exact zk_coSN (idx := 47) (host := "ClerestoryPlanLaw") X (ct_L_below hl E) (List.forall_mem_cons.mpr ⟨zk_wi 626 (by decide +kernel) rfl, List.forall_mem_cons.mpr ⟨zk_wi 0 (by decide +kernel) rfl, List.forall_mem_cons.mpr ⟨zk_wi 627 (by decide +kernel) rfl, fun _ h => absurd h List.not_mem_nil⟩⟩⟩) (zk_tb 625 (by decide +kernel)) (by decide +kernel) ⟨by decide, by decide, by decide +kernel⟩ ⟨by decide, by decide⟩

