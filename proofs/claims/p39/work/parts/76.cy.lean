/-! the class: turn, shut, faultsWith, lostWithout, timeWith -/
theorem po_up {O : zk_Hp} {a ci : Nat} {fs : List Value} (h : O a = some (.inr (ci, fs))) (k : Nat) (v : Value) : zk_po O a k v = zk_up O a (.inr (ci, fs.set k v)) := by
  funext q
  unfold zk_po zk_up
  by_cases w : q = a
  · rw [if_pos w, if_pos w, h]
  · rw [if_neg w, if_neg w]
theorem up_back {O : zk_Hp} {a : Nat} {e : va_E} (h : O a = some e) : zk_up O a e = O := by
  funext q
  unfold zk_up
  by_cases w : q = a
  · rw [if_pos w, w, h]
  · rw [if_neg w]
theorem upd_same (f : Nat → Int32) (k : Nat) : upd f k (f k) = f := by
  funext j
  unfold upd
  by_cases w : j = k
  · rw [if_pos w, w]
  · rw [if_neg w]
def xdr2 (N : Nat → Nat → Int32) (Q : Nat → Nat → Option Nat) (d : Nat) (fw sh : Int32) (p : Nat) : va_E := cX 1 (rq Q (N 30 d)) (rq Q (N 31 d)) (m_px N (2 * d)) (m_py N (2 * d)) 0 fw sh [.ref p]
section XRS
variable {E : zk_E} {sz : Nat} {J N J1 N1 : Nat → Nat → Int32} {Q : Nat → Nat → Option Nat} {O : zk_Hp} {U : zk_U} {fl : Nat → Int32}
/-- a door's own numbers -/
theorem XR.set (h : XR E sz (J1, N1, Q, O, U) J N fl) {k d p : Nat} (hk : k < 40) (hq : Q 3 k = some d) (hp : OKA E sz p) (hO : O d = some (xdr N Q fl k p)) (hOp : O p = some (xdp N k)) {J2 N2 : Nat → Nat → Int32} (h1 : J2 1 = J1 1) (h6 : N2 6 = N1 6) (fw x : Int32) : XR E sz (J2, N2, Q, zk_up O d (xdr2 N Q k fw x p), U) J (zk_un N 36 (upd (N 36) k x)) (upd fl k fw) := by
  obtain ⟨⟨a1, a2, a3, a4, a5⟩, hB, hC, hD, hT, hG⟩ := h
  have hB : XB E sz Q O J N := hB
  have hC : XC E sz Q O J N fl := hC
  have hD : XD E sz Q O J N := hD
  have hT : XT E sz Q O J N := hT
  have hG : XG Q := hG
  refine ⟨⟨?_, ?_, ?_, ?_, ?_⟩, ?_, ?_, ?_, ?_, ?_⟩
  · rw [← a1]; show J2 1 5 = J1 1 5; rw [h1]
  · rw [← a2]; show J2 1 6 = J1 1 6; rw [h1]
  · rw [← a3]; show J2 1 7 = J1 1 7; rw [h1]
  · rw [← a4]; show J2 1 8 = J1 1 8; rw [h1]
  · intro i hi; rw [show (zk_un N 36 (upd (N 36) k x)) 46 i = N 46 i from rfl, ← a5 i hi]; show N2 6 i = N1 6 i; rw [h6]
  · intro r hr
    rcases hB r hr with ⟨a, b1, b2, b3, b4⟩ | ⟨b1, b2⟩
    · refine Or.inl ⟨a, b1, b2, b3, ?_⟩
      show zk_up O d _ a = _
      rw [zk_up_ne _ _ (fun w => by rw [w, hO] at b4; cases b4)]
      exact b4
    · exact Or.inr ⟨b1, b2⟩
  · intro i hi
    rcases hC i hi with ⟨a, p2, b1, b2, b3, b4, b5, b6⟩ | ⟨b1, b2⟩
    · by_cases w : i = k
      · subst w
        rw [hq] at b2
        cases b2
        refine Or.inl ⟨d, p, b1, hq, b3, hp, ?_, ?_⟩
        · show zk_up O d _ d = _
          rw [zk_up_same]
          unfold xdr2 xdr
          rw [upd_self, show (zk_un N 36 (upd (N 36) i x)) 36 i = upd (N 36) i x i from rfl, upd_self]
          rfl
        · show zk_up O d _ p = _
          rw [zk_up_ne _ _ (fun w => by rw [w, hO] at hOp; cases hOp)]
          exact hOp
      · refine Or.inl ⟨a, p2, b1, b2, b3, b4, ?_, ?_⟩
        · show zk_up O d _ a = _
          rw [zk_up_ne _ _ (fun z : a = d => w (hG i k d hi hk (z ▸ b2) hq)), b5]
          unfold xdr
          rw [upd_ne _ _ w, show (zk_un N 36 (upd (N 36) k x)) 36 i = upd (N 36) k x i from rfl, upd_ne _ _ w]
          rfl
        · show zk_up O d _ p2 = _
          rw [zk_up_ne _ _ (fun w => by rw [w, hO] at b6; cases b6)]
          exact b6
    · exact Or.inr ⟨b1, b2⟩
  · intro r hr
    rcases hD r hr with ⟨a, p2, b, b1, b2, b3, b4, b5, b6, b7⟩ | ⟨b1, b2⟩
    · refine Or.inl ⟨a, p2, b, b1, b2, b3, b4, b5, ?_, ?_⟩
      · show zk_up O d _ a = _
        rw [zk_up_ne _ _ (fun w => by rw [w, hO] at b6; cases b6)]
        exact b6
      · show zk_up O d _ p2 = _
        rw [zk_up_ne _ _ (fun w => by rw [w, hO] at b7; cases b7)]
        exact b7
    · exact Or.inr ⟨b1, b2⟩
  · intro r hr
    rcases hT r hr with ⟨a, b1, b2, b3, b4⟩ | ⟨b1, b2⟩
    · refine Or.inl ⟨a, b1, b2, b3, ?_⟩
      show zk_up O d _ a = _
      rw [zk_up_ne _ _ (fun w => by rw [w, hO] at b4; cases b4)]
      exact b4
    · exact Or.inr ⟨b1, b2⟩
  · exact hG
end XRS
theorem fl0_36 (N : Nat → Nat → Int32) (A : Nat → Int32) : fl0 (zk_un N 36 A) = fl0 N := rfl
def sp_X10_turn (E : zk_E) : zk_Sp zk_S := fun av σ sz P PX => match av with
  | [.ref a, .ref d] => a = zk_ad E 0 ∧ E.1 + 28 ≤ d ∧ ∃ f t mx my ln fw sh rest, σ.2.2.2.1 d = some (cX 1 f t mx my ln fw sh rest) ∧ P none (zk_uj σ.1 0 4 0, σ.2.1, σ.2.2.1, zk_up σ.2.2.2.1 d (cX 1 f t mx my ln fw (if sh = 0 then 1 else 0) rest), σ.2.2.2.2) sz
  | _ => False
theorem spe_X10_turn (E : zk_E) (a : Nat) (d : Nat) (σ : zk_S) (sz : Nat) (P : zk_P zk_S) (PX : zk_X zk_S) : sp_X10_turn E [.ref a, .ref d] σ sz P PX = (a = zk_ad E 0 ∧ E.1 + 28 ≤ d ∧ ∃ f t mx my ln fw sh rest, σ.2.2.2.1 d = some (cX 1 f t mx my ln fw sh rest) ∧ P none (zk_uj σ.1 0 4 0, σ.2.1, σ.2.2.1, zk_up σ.2.2.2.1 d (cX 1 f t mx my ln fw (if sh = 0 then 1 else 0) rest), σ.2.2.2.2) sz) := propext Iff.rfl
def C_X10_turn (E : zk_E) : zk_Cl zk_S := zk_lka []
theorem r_X10_turn (E : zk_E) (P : zk_P zk_S) (PX : zk_X zk_S) (K : Nat → zk_L → List Value → zk_W zk_S → Prop) : (∀ (n : Nat) (l0 : Option Value) (y1 : Value) (r : List Value) (σ : zk_S) (sz k c : Nat), zk_run E (zk_VT E) M_X10_turn (C_X10_turn E) P PX K (n + 1) 0 [l0, some y1] r (σ, sz, k, c) = (zk_isr y1 ∧ zk_run E (zk_VT E) M_X10_turn (C_X10_turn E) P PX K n 1 [l0, some y1] (y1 :: r) (σ, sz, k, c))) ∧
  (∀ (n : Nat) (l0 : Option Value) (y1 : Value) (r : List Value) (σ : zk_S) (sz k c : Nat), zk_run E (zk_VT E) M_X10_turn (C_X10_turn E) P PX K (n + 1) 1 [l0, some y1] r (σ, sz, k, c) = (zk_isr y1 ∧ zk_run E (zk_VT E) M_X10_turn (C_X10_turn E) P PX K n 2 [l0, some y1] (y1 :: r) (σ, sz, k, c))) ∧
  (∀ (n : Nat) (l0 l1 : Option Value) (a : Nat) (r : List Value) (σ : zk_S) (sz k c : Nat), zk_run E (zk_VT E) M_X10_turn (C_X10_turn E) P PX K (n + 1) 2 [l0, l1] (.ref a :: r) (σ, sz, k, c) = zk_fld (zk_view E σ a) [1] 6 (fun v => zk_run E (zk_VT E) M_X10_turn (C_X10_turn E) P PX K n 5 [l0, l1] (v :: r) (σ, sz, k, c))) ∧
  (∀ (n : Nat) (l0 l1 : Option Value) (x : Int32) (r : List Value) (σ : zk_S) (sz k c : Nat), zk_run E (zk_VT E) M_X10_turn (C_X10_turn E) P PX K (n + 1) 5 [l0, l1] (.int x :: r) (σ, sz, k, c) = ((¬ x = 0 → zk_run E (zk_VT E) M_X10_turn (C_X10_turn E) P PX K n 12 [l0, l1] r (σ, sz, k, c)) ∧ (¬ (¬ x = 0) → zk_run E (zk_VT E) M_X10_turn (C_X10_turn E) P PX K n 8 [l0, l1] r (σ, sz, k, c)))) ∧
  (∀ (n : Nat) (l0 l1 : Option Value)  (r : List Value) (σ : zk_S) (sz k c : Nat), zk_run E (zk_VT E) M_X10_turn (C_X10_turn E) P PX K (n + 1) 8 [l0, l1] r (σ, sz, k, c) = zk_run E (zk_VT E) M_X10_turn (C_X10_turn E) P PX K n 9 [l0, l1] (.int (1) :: r) (σ, sz, k, c)) ∧
  (∀ (n : Nat) (l0 l1 : Option Value)  (r : List Value) (σ : zk_S) (sz k c : Nat), zk_run E (zk_VT E) M_X10_turn (C_X10_turn E) P PX K (n + 1) 9 [l0, l1] r (σ, sz, k, c) = zk_run E (zk_VT E) M_X10_turn (C_X10_turn E) P PX K n 13 [l0, l1] r (σ, sz, k, c)) ∧
  (∀ (n : Nat) (l0 l1 : Option Value)  (r : List Value) (σ : zk_S) (sz k c : Nat), zk_run E (zk_VT E) M_X10_turn (C_X10_turn E) P PX K (n + 1) 12 [l0, l1] r (σ, sz, k, c) = zk_run E (zk_VT E) M_X10_turn (C_X10_turn E) P PX K n 13 [l0, l1] (.int (0) :: r) (σ, sz, k, c)) ∧
  (∀ (n : Nat) (l0 l1 : Option Value) (a : Nat) (v : Value) (r : List Value) (σ : zk_S) (sz k c : Nat), zk_run E (zk_VT E) M_X10_turn (C_X10_turn E) P PX K (n + 1) 13 [l0, l1] (v :: .ref a :: r) (σ, sz, k, c) = zk_put (zk_view E σ a) [1] 6 1 v (zk_pfok E σ a 6 v ∧ zk_run E (zk_VT E) M_X10_turn (C_X10_turn E) P PX K n 16 [l0, l1] r (zk_pf E σ a 6 v, sz, k, c))) ∧
  (∀ (n : Nat) (l1 : Option Value) (y0 : Value) (r : List Value) (σ : zk_S) (sz k c : Nat), zk_run E (zk_VT E) M_X10_turn (C_X10_turn E) P PX K (n + 1) 16 [some y0, l1] r (σ, sz, k, c) = (zk_isr y0 ∧ zk_run E (zk_VT E) M_X10_turn (C_X10_turn E) P PX K n 17 [some y0, l1] (y0 :: r) (σ, sz, k, c))) ∧
  (∀ (n : Nat) (l0 l1 : Option Value)  (r : List Value) (σ : zk_S) (sz k c : Nat), zk_run E (zk_VT E) M_X10_turn (C_X10_turn E) P PX K (n + 1) 17 [l0, l1] r (σ, sz, k, c) = zk_run E (zk_VT E) M_X10_turn (C_X10_turn E) P PX K n 18 [l0, l1] (.int (0) :: r) (σ, sz, k, c)) ∧
  (∀ (n : Nat) (l0 l1 : Option Value) (a : Nat) (v : Value) (r : List Value) (σ : zk_S) (sz k c : Nat), zk_run E (zk_VT E) M_X10_turn (C_X10_turn E) P PX K (n + 1) 18 [l0, l1] (v :: .ref a :: r) (σ, sz, k, c) = zk_put (zk_view E σ a) [9] 4 1 v (zk_pfok E σ a 4 v ∧ zk_run E (zk_VT E) M_X10_turn (C_X10_turn E) P PX K n 21 [l0, l1] r (zk_pf E σ a 4 v, sz, k, c))) ∧
  (∀ (n : Nat) (l0 l1 : Option Value)   (σ : zk_S) (sz k c : Nat), zk_run E (zk_VT E) M_X10_turn (C_X10_turn E) P PX K (n + 1) 21 [l0, l1] [] (σ, sz, k, c) = (P none σ sz ∧ k ≤ 0 ∧ c ≤ 0)) ∧
  (∀ (n : Nat) (l0 l1 : Option Value) (r : List Value) (w : zk_W zk_S), zk_go E (zk_VT E) M_X10_turn (C_X10_turn E) P PX K n 0 [l0, l1] r w = zk_run E (zk_VT E) M_X10_turn (C_X10_turn E) P PX K (n + 1) 0 [l0, l1] r w) := ⟨by intros; rfl, by intros; rfl, by intros; rfl, by intros; rfl, by intros; rfl, by intros; rfl, by intros; rfl, by intros; rfl, by intros; rfl, by intros; rfl, by intros; rfl, by intros; rfl, by intros; rfl⟩
theorem vc_X10_turn (E : zk_E) : zk_VC E (zk_VT E) M_X10_turn (C_X10_turn E) 2 (sp_X10_turn E) := by
  intro av σ sz P PX h
  obtain ⟨J, N, Q, O, U⟩ := σ
  unfold sp_X10_turn at h
  split at h
  case h_2 => exact h.elim
  rename_i a0 d
  obtain ⟨rfl, h⟩ := h
  refine ⟨Nat.le_of_ble_eq_true rfl, fun G hG => ?_⟩
  change G 0 [some (.ref (zk_ad E 0)), some (.ref d)] [] ((J, N, Q, O, U), sz, 0, 0)
  try dsimp only at h
  obtain ⟨hd, f, t, mx, my, ln, fw, sh, rest, hO, h⟩ := h
  have hO : O d = some (cX 1 f t mx my ln fw sh rest) := hO
  have g6 : ∀ F : Value → Prop, zk_fld (O d) [1] 6 F = F (.int sh) := fun F => by rw [hO]; simp [zk_fld_o, cX, zk_nth]
  have pu : ∀ x, zk_po O d 6 (.int x) = zk_up O d (cX 1 f t mx my ln fw x rest) := fun x => po_up hO 6 (.int x)
  have gp : ∀ x (F : Prop), (x = 0 ∨ x = 1) → zk_put (O d) [1] 6 1 (.int x) F = F := fun x F hx => by rw [hO]; rcases hx with rfl | rfl <;> simp [zk_put_o, cX, zk_fok]
  have gp0 := fun F => gp 0 F (Or.inl rfl)
  have gp1 := fun F => gp 1 F (Or.inr rfl)
  by_cases q : sh = 0
  · rw [if_pos q] at h
    (refine hG 900 _ _ _ _ ?_; simp only [r_X10_turn, zk_kl_none, zk_kl_int, zk_kl_ref, zk_kl_null, zk_kl_long, zk_kl_rf, zk_isr_ref, zk_isr_null, zk_isr_rf9, zk_c1_int, zk_c1_ref, zk_c1_null, zk_c1_rf, zk_psh_some, zk_psh_none, zk_nok_int, zk_nok_bool0, zk_nok_bool1, zk_nok_b, zk_fok_0, zk_fok_1, zk_fok_2, zk_fok_n, zk_fok_rf, zb_f, zb_p, zb_i, zb_a, zb_s, zk_nth_0, zk_nth_s, zk_fld_o, zk_put_o, zk_rv_eq, zk_ri_eq, zk_is_o, List.mem_cons, List.not_mem_nil, or_false, false_or, or_true, true_or, and_true, true_and, not_false_iff, not_true_eq_false, true_implies, false_implies, imp_self, implies_true, forall_const, zk_lit, zk_uj_ap, zk_un_ap, zk_un_un, zk_uj_uj, Nat.reduceEqDiff, eq_self, zk_bq, Bool.true_or, Bool.false_or, Nat.le_refl, Nat.zero_add, Nat.add_zero, Nat.reduceAdd, Nat.reduceLeDiff, Nat.le_zero_eq, and_self, and_false, false_and, ite_true, ite_false, Nat.zero_le, List.length_cons, List.length_nil, Option.some.injEq, forall_eq', reduceCtorEq, zk_vd hd, g6, q, zk_pfd _ _ hd, zk_pod _ _ hd, pu, gp0, gp1])
    exact h
  · rw [if_neg q] at h
    (refine hG 900 _ _ _ _ ?_; simp only [r_X10_turn, zk_kl_none, zk_kl_int, zk_kl_ref, zk_kl_null, zk_kl_long, zk_kl_rf, zk_isr_ref, zk_isr_null, zk_isr_rf9, zk_c1_int, zk_c1_ref, zk_c1_null, zk_c1_rf, zk_psh_some, zk_psh_none, zk_nok_int, zk_nok_bool0, zk_nok_bool1, zk_nok_b, zk_fok_0, zk_fok_1, zk_fok_2, zk_fok_n, zk_fok_rf, zb_f, zb_p, zb_i, zb_a, zb_s, zk_nth_0, zk_nth_s, zk_fld_o, zk_put_o, zk_rv_eq, zk_ri_eq, zk_is_o, List.mem_cons, List.not_mem_nil, or_false, false_or, or_true, true_or, and_true, true_and, not_false_iff, not_true_eq_false, true_implies, false_implies, imp_self, implies_true, forall_const, zk_lit, zk_uj_ap, zk_un_ap, zk_un_un, zk_uj_uj, Nat.reduceEqDiff, eq_self, zk_bq, Bool.true_or, Bool.false_or, Nat.le_refl, Nat.zero_add, Nat.add_zero, Nat.reduceAdd, Nat.reduceLeDiff, Nat.le_zero_eq, and_self, and_false, false_and, ite_true, ite_false, Nat.zero_le, List.length_cons, List.length_nil, Option.some.injEq, forall_eq', reduceCtorEq, zk_vd hd, g6, q, zk_pfd _ _ hd, zk_pod _ _ hd, pu, gp0, gp1])
    exact h
theorem ct_X10_turn {l : Launch} (hl : l.stackTraces = false) (E : zk_E) : zk_C l E (zk_VT E) yX10_turn cX10_turn 2 (none) rm_X10_turn (sp_X10_turn E) := by
  refine zk_meth (M := M_X10_turn) (C := C_X10_turn E) hl (by decide +kernel) rfl (fun _ _ => rfl) (zk_VT_ok E) MO_X10_turn TO_X10_turn THo_X10_turn ?_ (vc_X10_turn E)
  exact fun p e s m args below meth c X pc n mc ms sp2 h => absurd (zk_lka_mem h) List.not_mem_nil

def sp_X10_shut (E : zk_E) : zk_Sp zk_S := fun av σ sz P PX => match av with
  | [.ref a, .int d, .int x] => a = zk_ad E 0 ∧ ∃ J N, IC E sz σ J N ∧ (x = 0 ∨ x = 1) ∧ DRD J N d (fun j => ∀ O2, (∀ q c n g, σ.2.2.2.1 q = some (.inl (c, n, .inl g)) → O2 q = σ.2.2.2.1 q) → XR E sz (zk_uj σ.1 0 4 0, σ.2.1, σ.2.2.1, O2, σ.2.2.2.2) J (zk_un N 36 (upd (N 36) j x)) (fl0 N) → P (some (.int (N 36 j))) (zk_uj σ.1 0 4 0, σ.2.1, σ.2.2.1, O2, σ.2.2.2.2) sz) (TX σ sz "java/lang/IndexOutOfBoundsException" PX)
  | _ => False
theorem spe_X10_shut (E : zk_E) (a : Nat) (d : Int32) (x : Int32) (σ : zk_S) (sz : Nat) (P : zk_P zk_S) (PX : zk_X zk_S) : sp_X10_shut E [.ref a, .int d, .int x] σ sz P PX = (a = zk_ad E 0 ∧ ∃ J N, IC E sz σ J N ∧ (x = 0 ∨ x = 1) ∧ DRD J N d (fun j => ∀ O2, (∀ q c n g, σ.2.2.2.1 q = some (.inl (c, n, .inl g)) → O2 q = σ.2.2.2.1 q) → XR E sz (zk_uj σ.1 0 4 0, σ.2.1, σ.2.2.1, O2, σ.2.2.2.2) J (zk_un N 36 (upd (N 36) j x)) (fl0 N) → P (some (.int (N 36 j))) (zk_uj σ.1 0 4 0, σ.2.1, σ.2.2.1, O2, σ.2.2.2.2) sz) (TX σ sz "java/lang/IndexOutOfBoundsException" PX)) := propext Iff.rfl
def C_X10_shut (E : zk_E) : zk_Cl zk_S := zk_lka [(2, 2, 1, 6, zk_rv (zk_VT E) (fun ci => Nat.beq ci 9) (sp_X10_doorThere E))]
theorem r_X10_shut (E : zk_E) (P : zk_P zk_S) (PX : zk_X zk_S) (K : Nat → zk_L → List Value → zk_W zk_S → Prop) : (∀ (n : Nat) (l1 l2 l3 l4 : Option Value) (y0 : Value) (r : List Value) (σ : zk_S) (sz k c : Nat), zk_run E (zk_VT E) M_X10_shut (C_X10_shut E) P PX K (n + 1) 0 [some y0, l1, l2, l3, l4] r (σ, sz, k, c) = (zk_isr y0 ∧ zk_run E (zk_VT E) M_X10_shut (C_X10_shut E) P PX K n 1 [some y0, l1, l2, l3, l4] (y0 :: r) (σ, sz, k, c))) ∧
  (∀ (n : Nat) (l0 l2 l3 l4 : Option Value) (y1 : Int32) (r : List Value) (σ : zk_S) (sz k c : Nat), zk_run E (zk_VT E) M_X10_shut (C_X10_shut E) P PX K (n + 1) 1 [l0, some (.int y1), l2, l3, l4] r (σ, sz, k, c) = zk_run E (zk_VT E) M_X10_shut (C_X10_shut E) P PX K n 2 [l0, some (.int y1), l2, l3, l4] (.int y1 :: r) (σ, sz, k, c)) ∧
  (∀ (n : Nat) (l0 l1 l2 l3 l4 : Option Value) (v0 : Value) (v1 : Value)  (σ : zk_S) (sz k c : Nat), zk_run E (zk_VT E) M_X10_shut (C_X10_shut E) P PX K (n + 1) 2 [l0, l1, l2, l3, l4] [v0, v1] (σ, sz, k, c) = (k + 1 ≤ 1 ∧ c + 6 ≤ 6 ∧ (zk_rv (zk_VT E) (fun ci => Nat.beq ci 9) (sp_X10_doorThere E)) [v1, v0] σ sz (fun v s2 z2 => zk_run E (zk_VT E) M_X10_shut (C_X10_shut E) P PX K n 5 [l0, l1, l2, l3, l4] (zk_psh v []) (s2, z2, k + 1, c + 6)) (fun X s2 z2 => PX X s2 z2))) ∧
  (∀ (n : Nat) (l0 l1 l2 l3 l4 : Option Value) (x : Value) (r : List Value) (σ : zk_S) (sz k c : Nat), zk_run E (zk_VT E) M_X10_shut (C_X10_shut E) P PX K (n + 1) 5 [l0, l1, l2, l3, l4] (x :: r) (σ, sz, k, c) = (zk_isr x ∧ zk_run E (zk_VT E) M_X10_shut (C_X10_shut E) P PX K n 6 [l0, l1, zk_kl l2, some (x), l4] r (σ, sz, k, c))) ∧
  (∀ (n : Nat) (l0 l1 l2 l4 : Option Value) (y3 : Value) (r : List Value) (σ : zk_S) (sz k c : Nat), zk_run E (zk_VT E) M_X10_shut (C_X10_shut E) P PX K (n + 1) 6 [l0, l1, l2, some y3, l4] r (σ, sz, k, c) = (zk_isr y3 ∧ zk_run E (zk_VT E) M_X10_shut (C_X10_shut E) P PX K n 7 [l0, l1, l2, some y3, l4] (y3 :: r) (σ, sz, k, c))) ∧
  (∀ (n : Nat) (l0 l1 l2 l3 l4 : Option Value) (a : Nat) (r : List Value) (σ : zk_S) (sz k c : Nat), zk_run E (zk_VT E) M_X10_shut (C_X10_shut E) P PX K (n + 1) 7 [l0, l1, l2, l3, l4] (.ref a :: r) (σ, sz, k, c) = zk_fld (zk_view E σ a) [1] 6 (fun v => zk_run E (zk_VT E) M_X10_shut (C_X10_shut E) P PX K n 10 [l0, l1, l2, l3, l4] (v :: r) (σ, sz, k, c))) ∧
  (∀ (n : Nat) (l0 l1 l2 l3 l4 : Option Value) (x : Int32) (r : List Value) (σ : zk_S) (sz k c : Nat), zk_run E (zk_VT E) M_X10_shut (C_X10_shut E) P PX K (n + 1) 10 [l0, l1, l2, l3, l4] (.int x :: r) (σ, sz, k, c) = zk_run E (zk_VT E) M_X10_shut (C_X10_shut E) P PX K n 12 [l0, l1, l2, zk_kl l3, some (.int x)] r (σ, sz, k, c)) ∧
  (∀ (n : Nat) (l0 l1 l2 l4 : Option Value) (y3 : Value) (r : List Value) (σ : zk_S) (sz k c : Nat), zk_run E (zk_VT E) M_X10_shut (C_X10_shut E) P PX K (n + 1) 12 [l0, l1, l2, some y3, l4] r (σ, sz, k, c) = (zk_isr y3 ∧ zk_run E (zk_VT E) M_X10_shut (C_X10_shut E) P PX K n 13 [l0, l1, l2, some y3, l4] (y3 :: r) (σ, sz, k, c))) ∧
  (∀ (n : Nat) (l0 l1 l3 l4 : Option Value) (y2 : Int32) (r : List Value) (σ : zk_S) (sz k c : Nat), zk_run E (zk_VT E) M_X10_shut (C_X10_shut E) P PX K (n + 1) 13 [l0, l1, some (.int y2), l3, l4] r (σ, sz, k, c) = zk_run E (zk_VT E) M_X10_shut (C_X10_shut E) P PX K n 14 [l0, l1, some (.int y2), l3, l4] (.int y2 :: r) (σ, sz, k, c)) ∧
  (∀ (n : Nat) (l0 l1 l2 l3 l4 : Option Value) (a : Nat) (v : Value) (r : List Value) (σ : zk_S) (sz k c : Nat), zk_run E (zk_VT E) M_X10_shut (C_X10_shut E) P PX K (n + 1) 14 [l0, l1, l2, l3, l4] (v :: .ref a :: r) (σ, sz, k, c) = zk_put (zk_view E σ a) [1] 6 1 v (zk_pfok E σ a 6 v ∧ zk_run E (zk_VT E) M_X10_shut (C_X10_shut E) P PX K n 17 [l0, l1, l2, l3, l4] r (zk_pf E σ a 6 v, sz, k, c))) ∧
  (∀ (n : Nat) (l1 l2 l3 l4 : Option Value) (y0 : Value) (r : List Value) (σ : zk_S) (sz k c : Nat), zk_run E (zk_VT E) M_X10_shut (C_X10_shut E) P PX K (n + 1) 17 [some y0, l1, l2, l3, l4] r (σ, sz, k, c) = (zk_isr y0 ∧ zk_run E (zk_VT E) M_X10_shut (C_X10_shut E) P PX K n 18 [some y0, l1, l2, l3, l4] (y0 :: r) (σ, sz, k, c))) ∧
  (∀ (n : Nat) (l0 l1 l2 l3 l4 : Option Value)  (r : List Value) (σ : zk_S) (sz k c : Nat), zk_run E (zk_VT E) M_X10_shut (C_X10_shut E) P PX K (n + 1) 18 [l0, l1, l2, l3, l4] r (σ, sz, k, c) = zk_run E (zk_VT E) M_X10_shut (C_X10_shut E) P PX K n 19 [l0, l1, l2, l3, l4] (.int (0) :: r) (σ, sz, k, c)) ∧
  (∀ (n : Nat) (l0 l1 l2 l3 l4 : Option Value) (a : Nat) (v : Value) (r : List Value) (σ : zk_S) (sz k c : Nat), zk_run E (zk_VT E) M_X10_shut (C_X10_shut E) P PX K (n + 1) 19 [l0, l1, l2, l3, l4] (v :: .ref a :: r) (σ, sz, k, c) = zk_put (zk_view E σ a) [9] 4 1 v (zk_pfok E σ a 4 v ∧ zk_run E (zk_VT E) M_X10_shut (C_X10_shut E) P PX K n 22 [l0, l1, l2, l3, l4] r (zk_pf E σ a 4 v, sz, k, c))) ∧
  (∀ (n : Nat) (l0 l1 l2 l3 : Option Value) (y4 : Int32) (r : List Value) (σ : zk_S) (sz k c : Nat), zk_run E (zk_VT E) M_X10_shut (C_X10_shut E) P PX K (n + 1) 22 [l0, l1, l2, l3, some (.int y4)] r (σ, sz, k, c) = zk_run E (zk_VT E) M_X10_shut (C_X10_shut E) P PX K n 24 [l0, l1, l2, l3, some (.int y4)] (.int y4 :: r) (σ, sz, k, c)) ∧
  (∀ (n : Nat) (l0 l1 l2 l3 l4 : Option Value) (x : Int32)  (σ : zk_S) (sz k c : Nat), zk_run E (zk_VT E) M_X10_shut (C_X10_shut E) P PX K (n + 1) 24 [l0, l1, l2, l3, l4] [.int x] (σ, sz, k, c) = (zk_nok (some (.boolean)) x ∧ P (some (.int x)) σ sz ∧ k ≤ 1 ∧ c ≤ 6)) ∧
  (∀ (n : Nat) (l0 l1 l2 l3 l4 : Option Value) (r : List Value) (w : zk_W zk_S), zk_go E (zk_VT E) M_X10_shut (C_X10_shut E) P PX K n 0 [l0, l1, l2, l3, l4] r w = zk_run E (zk_VT E) M_X10_shut (C_X10_shut E) P PX K (n + 1) 0 [l0, l1, l2, l3, l4] r w) := ⟨by intros; rfl, by intros; rfl, by intros; rfl, by intros; rfl, by intros; rfl, by intros; rfl, by intros; rfl, by intros; rfl, by intros; rfl, by intros; rfl, by intros; rfl, by intros; rfl, by intros; rfl, by intros; rfl, by intros; rfl, by intros; rfl⟩
theorem vc_X10_shut (E : zk_E) : zk_VC E (zk_VT E) M_X10_shut (C_X10_shut E) 5 (sp_X10_shut E) := by
  intro av σ sz P PX h
  obtain ⟨J, N, Q, O, U⟩ := σ
  unfold sp_X10_shut at h
  split at h
  case h_2 => exact h.elim
  rename_i a0 r x
  obtain ⟨rfl, h⟩ := h
  refine ⟨Nat.le_of_ble_eq_true rfl, fun G hG => ?_⟩
  change G 0 [some (.ref (zk_ad E 0)), some (.int r), some (.int x), none, none] [] ((J, N, Q, O, U), sz, 0, 0)
  try dsimp only at h
  obtain ⟨J1, N1, ⟨hmi, hxr, hrk⟩, hx, h⟩ := h
  rcases h with ⟨j, hj, rfl, h⟩ | ⟨hr, h⟩
  · obtain ⟨b, p, hb, hbo, hpo, hOb, hOp⟩ := hxr.2.2.1.door hmi.1 hj
    have hb : Q 3 j = some b := hb
    have hOb : O b = some (xdr N1 Q (fl0 N1) j p) := hOb
    have hOp : O p = some (xdp N1 j) := hOp
    have hb1 := hbo.1
    have hj40 := hj.lt hmi.1
    have in19 : m_isIn (nI j) 0 39 = true := n_isIn (by decide) hj40 (by decide)
    have hcl : (nI j).toNatClampNeg = j := n_cl (by omega)
    have hx2 := hxr.set hj40 hb hpo hOb hOp (J2 := zk_uj J 0 4 0) (N2 := N) rfl rfl (fl0 N1 j) x
    rw [upd_same] at hx2
    have h := h _ (fun q c n g hq => zk_up_ne _ _ (fun w => by rw [w, hOb] at hq; cases hq)) hx2
    have g6 : ∀ F : Value → Prop, zk_fld (O b) [1] 6 F = F (.int (N1 36 j)) := fun F => by rw [hOb]; simp [zk_fld_o, xdr, cX, zk_nth]
    have pu : zk_po O b 6 (.int x) = zk_up O b (xdr2 N1 Q j (fl0 N1 j) x p) := po_up hOb 6 (.int x)
    have gp : ∀ F, zk_put (O b) [1] 6 1 (.int x) F = F := fun F => by rw [hOb]; rcases hx with rfl | rfl <;> simp [zk_put_o, xdr, cX, zk_fok]
    have nok : zk_nok (some .boolean) (N1 36 j) = True := by
      rcases (hmi.2.2.1 j hj.1).2.2.2.2.2 with q | q
      · rw [q]; exact zk_nok_bool0
      · rw [q]; exact zk_nok_bool1
    (refine hG 900 _ _ _ _ ?_; simp only [r_X10_shut, zk_kl_none, zk_kl_int, zk_kl_ref, zk_kl_null, zk_kl_long, zk_kl_rf, zk_isr_ref, zk_isr_null, zk_isr_rf9, zk_c1_int, zk_c1_ref, zk_c1_null, zk_c1_rf, zk_psh_some, zk_psh_none, zk_nok_int, zk_nok_bool0, zk_nok_bool1, zk_nok_b, zk_fok_0, zk_fok_1, zk_fok_2, zk_fok_n, zk_fok_rf, zb_f, zb_p, zb_i, zb_a, zb_s, zk_nth_0, zk_nth_s, zk_fld_o, zk_put_o, zk_rv_eq, zk_ri_eq, zk_is_o, List.mem_cons, List.not_mem_nil, or_false, false_or, or_true, true_or, and_true, true_and, not_false_iff, not_true_eq_false, true_implies, false_implies, imp_self, implies_true, forall_const, zk_lit, zk_uj_ap, zk_un_ap, zk_un_un, zk_uj_uj, Nat.reduceEqDiff, eq_self, zk_bq, Bool.true_or, Bool.false_or, Nat.le_refl, Nat.zero_add, Nat.add_zero, Nat.reduceAdd, Nat.reduceLeDiff, Nat.le_zero_eq, and_self, and_false, false_and, ite_true, ite_false, Nat.zero_le, List.length_cons, List.length_nil, Option.some.injEq, forall_eq', reduceCtorEq, spe_X10_doorThere, nok, in19, hcl, hb, Bool.true_eq_false, zk_vd hb1, g6, zk_pfd _ _ hb1, zk_pod _ _ hb1, pu, gp])
    exact h
  · rcases hxr.nodoor hmi.1 hr with q | ⟨q, q2⟩
    · (refine hG 900 _ _ _ _ ?_; simp only [r_X10_shut, zk_kl_none, zk_kl_int, zk_kl_ref, zk_kl_null, zk_kl_long, zk_kl_rf, zk_isr_ref, zk_isr_null, zk_isr_rf9, zk_c1_int, zk_c1_ref, zk_c1_null, zk_c1_rf, zk_psh_some, zk_psh_none, zk_nok_int, zk_nok_bool0, zk_nok_bool1, zk_nok_b, zk_fok_0, zk_fok_1, zk_fok_2, zk_fok_n, zk_fok_rf, zb_f, zb_p, zb_i, zb_a, zb_s, zk_nth_0, zk_nth_s, zk_fld_o, zk_put_o, zk_rv_eq, zk_ri_eq, zk_is_o, List.mem_cons, List.not_mem_nil, or_false, false_or, or_true, true_or, and_true, true_and, not_false_iff, not_true_eq_false, true_implies, false_implies, imp_self, implies_true, forall_const, zk_lit, zk_uj_ap, zk_un_ap, zk_un_un, zk_uj_uj, Nat.reduceEqDiff, eq_self, zk_bq, Bool.true_or, Bool.false_or, Nat.le_refl, Nat.zero_add, Nat.add_zero, Nat.reduceAdd, Nat.reduceLeDiff, Nat.le_zero_eq, and_self, and_false, false_and, ite_true, ite_false, Nat.zero_le, List.length_cons, List.length_nil, Option.some.injEq, forall_eq', reduceCtorEq, spe_X10_doorThere, q, Bool.false_eq_true])
      exact h
    · (refine hG 900 _ _ _ _ ?_; simp only [r_X10_shut, zk_kl_none, zk_kl_int, zk_kl_ref, zk_kl_null, zk_kl_long, zk_kl_rf, zk_isr_ref, zk_isr_null, zk_isr_rf9, zk_c1_int, zk_c1_ref, zk_c1_null, zk_c1_rf, zk_psh_some, zk_psh_none, zk_nok_int, zk_nok_bool0, zk_nok_bool1, zk_nok_b, zk_fok_0, zk_fok_1, zk_fok_2, zk_fok_n, zk_fok_rf, zb_f, zb_p, zb_i, zb_a, zb_s, zk_nth_0, zk_nth_s, zk_fld_o, zk_put_o, zk_rv_eq, zk_ri_eq, zk_is_o, List.mem_cons, List.not_mem_nil, or_false, false_or, or_true, true_or, and_true, true_and, not_false_iff, not_true_eq_false, true_implies, false_implies, imp_self, implies_true, forall_const, zk_lit, zk_uj_ap, zk_un_ap, zk_un_un, zk_uj_uj, Nat.reduceEqDiff, eq_self, zk_bq, Bool.true_or, Bool.false_or, Nat.le_refl, Nat.zero_add, Nat.add_zero, Nat.reduceAdd, Nat.reduceLeDiff, Nat.le_zero_eq, and_self, and_false, false_and, ite_true, ite_false, Nat.zero_le, List.length_cons, List.length_nil, Option.some.injEq, forall_eq', reduceCtorEq, spe_X10_doorThere, q, q2])
      exact h
theorem ct_X10_shut {l : Launch} (hl : l.stackTraces = false) (E : zk_E) : zk_C l E (zk_VT E) yX10_shut cX10_shut 5 (some (.boolean)) rm_X10_shut (sp_X10_shut E) := by
  refine zk_meth (M := M_X10_shut) (C := C_X10_shut E) hl (by decide +kernel) rfl (fun _ _ => rfl) (zk_VT_ok E) MO_X10_shut TO_X10_shut THo_X10_shut ?_ (vc_X10_shut E)
  exact fun p e s m args below meth c X pc n mc ms sp2 h => by
    have h2 := zk_lka_mem h
    simp only [List.mem_cons, List.not_mem_nil, or_false, Prod.mk.injEq] at h2
    rcases h2 with ⟨rfl, rfl, rfl, rfl, rfl⟩
    exact zk_coV (idx := 167) X (ct_X10_doorThere hl E) (List.forall_mem_cons.mpr ⟨zk_wi 23 (by decide +kernel) rfl, List.forall_mem_cons.mpr ⟨zk_wi 25 (by decide +kernel) rfl, List.forall_mem_cons.mpr ⟨zk_wp 0 (by decide +kernel) rfl, List.forall_mem_cons.mpr ⟨zk_wi 2 (by decide +kernel) rfl, List.forall_mem_cons.mpr ⟨zk_wi 27 (by decide +kernel) rfl, fun _ h => absurd h List.not_mem_nil⟩⟩⟩⟩⟩) (fun ci h => by
      have h := Nat.eq_of_beq_eq_true h
      subst h
      exact ⟨_, _, rfl⟩) (by decide +kernel) ⟨by decide, by decide, by decide +kernel⟩ ⟨by decide, by decide⟩

theorem KE.zr {J J2 N N2 : Nat → Nat → Int32} (h : KE J J2 N N2) {x : Int32} : KE J (zk_uj J2 0 4 x) N N2 := ⟨fun o k a b => by
  unfold zk_uj
  rw [if_neg a]
  exact h.1 o k a b, h.2⟩
theorem KE.zl {J J2 N N2 : Nat → Nat → Int32} {x : Int32} (h : KE (zk_uj J 0 4 x) J2 N N2) : KE J J2 N N2 := ⟨fun o k a b => (h.1 o k a b).trans (if_neg a), h.2⟩
theorem d_tt2 {x : Int32} (h : x = 0 ∨ x = 1) : (if (if x = 0 then (1 : Int32) else 0) = 0 then (1 : Int32) else 0) = x := by rcases h with rfl | rfl <;> decide
def d_t (x : Int32) : Int32 := if x = 0 then 1 else 0
section XRS
variable {E : zk_E} {sz : Nat} {J N J1 N1 : Nat → Nat → Int32} {Q : Nat → Nat → Option Nat} {O : zk_Hp} {U : zk_U} {fl : Nat → Int32}
theorem XR.tgl (h : XR E sz (J1, N1, Q, O, U) J N (fl0 N)) {k d p : Nat} (hk : k < 40) (hq : Q 3 k = some d) (hp : OKA E sz p) (hO : O d = some (xdr N Q (fl0 N) k p)) (hOp : O p = some (xdp N k)) {J2 N2 : Nat → Nat → Int32} (h1 : J2 1 = J1 1) (h6 : N2 6 = N1 6) : XR E sz (J2, N2, Q, zk_up O d (xdr2 N Q k (fl0 N k) (d_t (N 36 k)) p), U) J (m_tgl N k) (fl0 (m_tgl N k)) := by
  have hx2 := h.set hk hq hp hO hOp (J2 := J2) (N2 := N2) h1 h6 (fl0 N k) (d_t (N 36 k))
  rw [upd_same] at hx2
  exact hx2
end XRS
def sp_X10_faultsWith (E : zk_E) : zk_Sp zk_S := fun av σ sz P PX => match av with
  | [.ref a, .int r] => a = zk_ad E 0 ∧ ∃ J N, IC E sz σ J N ∧ DRD J N r (fun j => ZC J N σ sz (some (.int (nI (a_faults J (m_tgl N j))))) P) (ZX J N σ sz "java/lang/IndexOutOfBoundsException" PX)
  | _ => False
theorem spe_X10_faultsWith (E : zk_E) (a : Nat) (r : Int32) (σ : zk_S) (sz : Nat) (P : zk_P zk_S) (PX : zk_X zk_S) : sp_X10_faultsWith E [.ref a, .int r] σ sz P PX = (a = zk_ad E 0 ∧ ∃ J N, IC E sz σ J N ∧ DRD J N r (fun j => ZC J N σ sz (some (.int (nI (a_faults J (m_tgl N j))))) P) (ZX J N σ sz "java/lang/IndexOutOfBoundsException" PX)) := propext Iff.rfl
def C_X10_faultsWith (E : zk_E) : zk_Cl zk_S := zk_lka [(2, 2, 1, 6, zk_rv (zk_VT E) (fun ci => Nat.beq ci 9) (sp_X10_doorThere E)), (8, 2, 0, 0, zk_rv (zk_VT E) (fun ci => Nat.beq ci 9) (sp_X10_turn E)), (12, 1, 0, 0, zk_rv (zk_VT E) (fun ci => Nat.beq ci 9) (sp_X10_reckon E)), (25, 2, 0, 0, zk_rv (zk_VT E) (fun ci => Nat.beq ci 9) (sp_X10_turn E))]
theorem r_X10_faultsWith (E : zk_E) (P : zk_P zk_S) (PX : zk_X zk_S) (K : Nat → zk_L → List Value → zk_W zk_S → Prop) : (∀ (n : Nat) (l1 l2 l3 : Option Value) (y0 : Value) (r : List Value) (σ : zk_S) (sz k c : Nat), zk_run E (zk_VT E) M_X10_faultsWith (C_X10_faultsWith E) P PX K (n + 1) 0 [some y0, l1, l2, l3] r (σ, sz, k, c) = (zk_isr y0 ∧ zk_run E (zk_VT E) M_X10_faultsWith (C_X10_faultsWith E) P PX K n 1 [some y0, l1, l2, l3] (y0 :: r) (σ, sz, k, c))) ∧
  (∀ (n : Nat) (l0 l2 l3 : Option Value) (y1 : Int32) (r : List Value) (σ : zk_S) (sz k c : Nat), zk_run E (zk_VT E) M_X10_faultsWith (C_X10_faultsWith E) P PX K (n + 1) 1 [l0, some (.int y1), l2, l3] r (σ, sz, k, c) = zk_run E (zk_VT E) M_X10_faultsWith (C_X10_faultsWith E) P PX K n 2 [l0, some (.int y1), l2, l3] (.int y1 :: r) (σ, sz, k, c)) ∧
  (∀ (n : Nat) (l0 l1 l2 l3 : Option Value) (v0 : Value) (v1 : Value)  (σ : zk_S) (sz k c : Nat), zk_run E (zk_VT E) M_X10_faultsWith (C_X10_faultsWith E) P PX K (n + 1) 2 [l0, l1, l2, l3] [v0, v1] (σ, sz, k, c) = (k + 1 ≤ 1 ∧ c + 6 ≤ 6 ∧ (zk_rv (zk_VT E) (fun ci => Nat.beq ci 9) (sp_X10_doorThere E)) [v1, v0] σ sz (fun v s2 z2 => zk_run E (zk_VT E) M_X10_faultsWith (C_X10_faultsWith E) P PX K n 5 [l0, l1, l2, l3] (zk_psh v []) (s2, z2, k + 1, c + 6)) (fun X s2 z2 => PX X s2 z2))) ∧
  (∀ (n : Nat) (l0 l1 l2 l3 : Option Value) (x : Value) (r : List Value) (σ : zk_S) (sz k c : Nat), zk_run E (zk_VT E) M_X10_faultsWith (C_X10_faultsWith E) P PX K (n + 1) 5 [l0, l1, l2, l3] (x :: r) (σ, sz, k, c) = (zk_isr x ∧ zk_run E (zk_VT E) M_X10_faultsWith (C_X10_faultsWith E) P PX K n 6 [l0, zk_kl l1, some (x), l3] r (σ, sz, k, c))) ∧
  (∀ (n : Nat) (l1 l2 l3 : Option Value) (y0 : Value) (r : List Value) (σ : zk_S) (sz k c : Nat), zk_run E (zk_VT E) M_X10_faultsWith (C_X10_faultsWith E) P PX K (n + 1) 6 [some y0, l1, l2, l3] r (σ, sz, k, c) = (zk_isr y0 ∧ zk_run E (zk_VT E) M_X10_faultsWith (C_X10_faultsWith E) P PX K n 7 [some y0, l1, l2, l3] (y0 :: r) (σ, sz, k, c))) ∧
  (∀ (n : Nat) (l0 l1 l3 : Option Value) (y2 : Value) (r : List Value) (σ : zk_S) (sz k c : Nat), zk_run E (zk_VT E) M_X10_faultsWith (C_X10_faultsWith E) P PX K (n + 1) 7 [l0, l1, some y2, l3] r (σ, sz, k, c) = (zk_isr y2 ∧ zk_run E (zk_VT E) M_X10_faultsWith (C_X10_faultsWith E) P PX K n 8 [l0, l1, some y2, l3] (y2 :: r) (σ, sz, k, c))) ∧
  (∀ (n : Nat) (l0 l1 l2 l3 : Option Value) (v0 : Value) (v1 : Value)  (σ : zk_S) (sz k c : Nat), zk_run E (zk_VT E) M_X10_faultsWith (C_X10_faultsWith E) P PX K (n + 1) 8 [l0, l1, l2, l3] [v0, v1] (σ, sz, k, c) = (k + 0 ≤ 1 ∧ c + 0 ≤ 6 ∧ (zk_rv (zk_VT E) (fun ci => Nat.beq ci 9) (sp_X10_turn E)) [v1, v0] σ sz (fun v s2 z2 => zk_run E (zk_VT E) M_X10_faultsWith (C_X10_faultsWith E) P PX K n 11 [l0, l1, l2, l3] (zk_psh v []) (s2, z2, k + 0, c + 0)) (fun X s2 z2 => PX X s2 z2))) ∧
  (∀ (n : Nat) (l1 l2 l3 : Option Value) (y0 : Value) (r : List Value) (σ : zk_S) (sz k c : Nat), zk_run E (zk_VT E) M_X10_faultsWith (C_X10_faultsWith E) P PX K (n + 1) 11 [some y0, l1, l2, l3] r (σ, sz, k, c) = (zk_isr y0 ∧ zk_run E (zk_VT E) M_X10_faultsWith (C_X10_faultsWith E) P PX K n 12 [some y0, l1, l2, l3] (y0 :: r) (σ, sz, k, c))) ∧
  (∀ (n : Nat) (l0 l1 l2 l3 : Option Value) (v0 : Value)  (σ : zk_S) (sz k c : Nat), zk_run E (zk_VT E) M_X10_faultsWith (C_X10_faultsWith E) P PX K (n + 1) 12 [l0, l1, l2, l3] [v0] (σ, sz, k, c) = (k + 0 ≤ 1 ∧ c + 0 ≤ 6 ∧ (zk_rv (zk_VT E) (fun ci => Nat.beq ci 9) (sp_X10_reckon E)) [v0] σ sz (fun v s2 z2 => zk_run E (zk_VT E) M_X10_faultsWith (C_X10_faultsWith E) P PX K n 15 [l0, l1, l2, l3] (zk_psh v []) (s2, z2, k + 0, c + 0)) (fun X s2 z2 => PX X s2 z2))) ∧
  (∀ (n : Nat) (l1 l2 l3 : Option Value) (y0 : Value) (r : List Value) (σ : zk_S) (sz k c : Nat), zk_run E (zk_VT E) M_X10_faultsWith (C_X10_faultsWith E) P PX K (n + 1) 15 [some y0, l1, l2, l3] r (σ, sz, k, c) = (zk_isr y0 ∧ zk_run E (zk_VT E) M_X10_faultsWith (C_X10_faultsWith E) P PX K n 16 [some y0, l1, l2, l3] (y0 :: r) (σ, sz, k, c))) ∧
  (∀ (n : Nat) (l0 l1 l2 l3 : Option Value) (a : Nat) (r : List Value) (σ : zk_S) (sz k c : Nat), zk_run E (zk_VT E) M_X10_faultsWith (C_X10_faultsWith E) P PX K (n + 1) 16 [l0, l1, l2, l3] (.ref a :: r) (σ, sz, k, c) = zk_fld (zk_view E σ a) [9] 3 (fun v => zk_run E (zk_VT E) M_X10_faultsWith (C_X10_faultsWith E) P PX K n 19 [l0, l1, l2, l3] (v :: r) (σ, sz, k, c))) ∧
  (∀ (n : Nat) (l0 l1 l2 l3 : Option Value) (a : Nat) (r : List Value) (σ : zk_S) (sz k c : Nat), zk_run E (zk_VT E) M_X10_faultsWith (C_X10_faultsWith E) P PX K (n + 1) 19 [l0, l1, l2, l3] (.ref a :: r) (σ, sz, k, c) = zk_fld (zk_view E σ a) [2] 3 (fun v => zk_run E (zk_VT E) M_X10_faultsWith (C_X10_faultsWith E) P PX K n 22 [l0, l1, l2, l3] (v :: r) (σ, sz, k, c))) ∧
  (∀ (n : Nat) (l0 l1 l2 l3 : Option Value) (x : Int32) (r : List Value) (σ : zk_S) (sz k c : Nat), zk_run E (zk_VT E) M_X10_faultsWith (C_X10_faultsWith E) P PX K (n + 1) 22 [l0, l1, l2, l3] (.int x :: r) (σ, sz, k, c) = zk_run E (zk_VT E) M_X10_faultsWith (C_X10_faultsWith E) P PX K n 23 [l0, l1, zk_kl l2, some (.int x)] r (σ, sz, k, c)) ∧
  (∀ (n : Nat) (l1 l2 l3 : Option Value) (y0 : Value) (r : List Value) (σ : zk_S) (sz k c : Nat), zk_run E (zk_VT E) M_X10_faultsWith (C_X10_faultsWith E) P PX K (n + 1) 23 [some y0, l1, l2, l3] r (σ, sz, k, c) = (zk_isr y0 ∧ zk_run E (zk_VT E) M_X10_faultsWith (C_X10_faultsWith E) P PX K n 24 [some y0, l1, l2, l3] (y0 :: r) (σ, sz, k, c))) ∧
  (∀ (n : Nat) (l0 l1 l3 : Option Value) (y2 : Value) (r : List Value) (σ : zk_S) (sz k c : Nat), zk_run E (zk_VT E) M_X10_faultsWith (C_X10_faultsWith E) P PX K (n + 1) 24 [l0, l1, some y2, l3] r (σ, sz, k, c) = (zk_isr y2 ∧ zk_run E (zk_VT E) M_X10_faultsWith (C_X10_faultsWith E) P PX K n 25 [l0, l1, some y2, l3] (y2 :: r) (σ, sz, k, c))) ∧
  (∀ (n : Nat) (l0 l1 l2 l3 : Option Value) (v0 : Value) (v1 : Value)  (σ : zk_S) (sz k c : Nat), zk_run E (zk_VT E) M_X10_faultsWith (C_X10_faultsWith E) P PX K (n + 1) 25 [l0, l1, l2, l3] [v0, v1] (σ, sz, k, c) = (k + 0 ≤ 1 ∧ c + 0 ≤ 6 ∧ (zk_rv (zk_VT E) (fun ci => Nat.beq ci 9) (sp_X10_turn E)) [v1, v0] σ sz (fun v s2 z2 => zk_run E (zk_VT E) M_X10_faultsWith (C_X10_faultsWith E) P PX K n 28 [l0, l1, l2, l3] (zk_psh v []) (s2, z2, k + 0, c + 0)) (fun X s2 z2 => PX X s2 z2))) ∧
  (∀ (n : Nat) (l0 l1 l2 : Option Value) (y3 : Int32) (r : List Value) (σ : zk_S) (sz k c : Nat), zk_run E (zk_VT E) M_X10_faultsWith (C_X10_faultsWith E) P PX K (n + 1) 28 [l0, l1, l2, some (.int y3)] r (σ, sz, k, c) = zk_run E (zk_VT E) M_X10_faultsWith (C_X10_faultsWith E) P PX K n 29 [l0, l1, l2, some (.int y3)] (.int y3 :: r) (σ, sz, k, c)) ∧
  (∀ (n : Nat) (l0 l1 l2 l3 : Option Value) (x : Int32)  (σ : zk_S) (sz k c : Nat), zk_run E (zk_VT E) M_X10_faultsWith (C_X10_faultsWith E) P PX K (n + 1) 29 [l0, l1, l2, l3] [.int x] (σ, sz, k, c) = (zk_nok (some (.int)) x ∧ P (some (.int x)) σ sz ∧ k ≤ 1 ∧ c ≤ 6)) ∧
  (∀ (n : Nat) (l0 l1 l2 l3 : Option Value) (r : List Value) (w : zk_W zk_S), zk_go E (zk_VT E) M_X10_faultsWith (C_X10_faultsWith E) P PX K n 0 [l0, l1, l2, l3] r w = zk_run E (zk_VT E) M_X10_faultsWith (C_X10_faultsWith E) P PX K (n + 1) 0 [l0, l1, l2, l3] r w) := ⟨by intros; rfl, by intros; rfl, by intros; rfl, by intros; rfl, by intros; rfl, by intros; rfl, by intros; rfl, by intros; rfl, by intros; rfl, by intros; rfl, by intros; rfl, by intros; rfl, by intros; rfl, by intros; rfl, by intros; rfl, by intros; rfl, by intros; rfl, by intros; rfl, by intros; rfl⟩
theorem vc_X10_faultsWith (E : zk_E) : zk_VC E (zk_VT E) M_X10_faultsWith (C_X10_faultsWith E) 4 (sp_X10_faultsWith E) := by
  intro av σ sz P PX h
  obtain ⟨J, N, Q, O, U⟩ := σ
  unfold sp_X10_faultsWith at h
  split at h
  case h_2 => exact h.elim
  rename_i a0 r
  obtain ⟨rfl, h⟩ := h
  refine ⟨Nat.le_of_ble_eq_true rfl, fun G hG => ?_⟩
  change G 0 [some (.ref (zk_ad E 0)), some (.int r), none, none] [] ((J, N, Q, O, U), sz, 0, 0)
  try dsimp only at h
  obtain ⟨J1, N1, ⟨hmi, hxr, hrk⟩, h⟩ := h
  rcases h with ⟨j, hj, rfl, h⟩ | ⟨hr, h⟩
  · obtain ⟨b, p, hb, hbo, hpo, hOb, hOp⟩ := hxr.2.2.1.door hmi.1 hj
    have hb : Q 3 j = some b := hb
    have hOb : O b = some (xdr N1 Q (fl0 N1) j p) := hOb
    have hOp : O p = some (xdp N1 j) := hOp
    have hb1 := hbo.1
    have hj40 := hj.lt hmi.1
    have in19 : m_isIn (nI j) 0 39 = true := n_isIn (by decide) hj40 (by decide)
    have hcl : (nI j).toNatClampNeg = j := n_cl (by omega)
    have hx2 := hxr.tgl hj40 hb hpo hOb hOp (J2 := zk_uj J 0 4 0) (N2 := N) rfl rfl
    (refine hG 900 _ _ _ _ ?_; simp only [r_X10_faultsWith, zk_kl_none, zk_kl_int, zk_kl_ref, zk_kl_null, zk_kl_long, zk_kl_rf, zk_isr_ref, zk_isr_null, zk_isr_rf9, zk_c1_int, zk_c1_ref, zk_c1_null, zk_c1_rf, zk_psh_some, zk_psh_none, zk_nok_int, zk_nok_bool0, zk_nok_bool1, zk_nok_b, zk_fok_0, zk_fok_1, zk_fok_2, zk_fok_n, zk_fok_rf, zb_f, zb_p, zb_i, zb_a, zb_s, zk_nth_0, zk_nth_s, zk_fld_o, zk_put_o, zk_rv_eq, zk_ri_eq, zk_is_o, List.mem_cons, List.not_mem_nil, or_false, false_or, or_true, true_or, and_true, true_and, not_false_iff, not_true_eq_false, true_implies, false_implies, imp_self, implies_true, forall_const, zk_lit, zk_uj_ap, zk_un_ap, zk_un_un, zk_uj_uj, Nat.reduceEqDiff, eq_self, zk_bq, Bool.true_or, Bool.false_or, Nat.le_refl, Nat.zero_add, Nat.add_zero, Nat.reduceAdd, Nat.reduceLeDiff, Nat.le_zero_eq, and_self, and_false, false_and, ite_true, ite_false, Nat.zero_le, List.length_cons, List.length_nil, Option.some.injEq, forall_eq', reduceCtorEq, spe_X10_doorThere, in19, hcl, hb, Bool.true_eq_false, spe_X10_turn])
    refine ⟨hb1, _, _, _, _, _, _, _, _, hOb, ?_⟩
    simp only [r_X10_faultsWith, zk_kl_none, zk_kl_int, zk_kl_ref, zk_kl_null, zk_kl_long, zk_kl_rf, zk_isr_ref, zk_isr_null, zk_isr_rf9, zk_c1_int, zk_c1_ref, zk_c1_null, zk_c1_rf, zk_psh_some, zk_psh_none, zk_nok_int, zk_nok_bool0, zk_nok_bool1, zk_nok_b, zk_fok_0, zk_fok_1, zk_fok_2, zk_fok_n, zk_fok_rf, zb_f, zb_p, zb_i, zb_a, zb_s, zk_nth_0, zk_nth_s, zk_fld_o, zk_put_o, zk_rv_eq, zk_ri_eq, zk_is_o, List.mem_cons, List.not_mem_nil, or_false, false_or, or_true, true_or, and_true, true_and, not_false_iff, not_true_eq_false, true_implies, false_implies, imp_self, implies_true, forall_const, zk_lit, zk_uj_ap, zk_un_ap, zk_un_un, zk_uj_uj, Nat.reduceEqDiff, eq_self, zk_bq, Bool.true_or, Bool.false_or, Nat.le_refl, Nat.zero_add, Nat.add_zero, Nat.reduceAdd, Nat.reduceLeDiff, Nat.le_zero_eq, and_self, and_false, false_and, ite_true, ite_false, Nat.zero_le, List.length_cons, List.length_nil, Option.some.injEq, forall_eq', reduceCtorEq, spe_X10_reckon]
    refine ⟨J1, m_tgl N1 j, fl0 (m_tgl N1 j), hmi.tgl hj.1, hx2, fun J2 N2 hke hcf => ?_⟩
    have h3 : J2 18 3 = nI (a_fl J1 (m_tgl N1 j) 10).length := hcf.2.2.1
    have h := h (zk_uj J2 0 4 0) N2 hke.zl.zr (Or.inl rfl)
    simp only [r_X10_faultsWith, zk_kl_none, zk_kl_int, zk_kl_ref, zk_kl_null, zk_kl_long, zk_kl_rf, zk_isr_ref, zk_isr_null, zk_isr_rf9, zk_c1_int, zk_c1_ref, zk_c1_null, zk_c1_rf, zk_psh_some, zk_psh_none, zk_nok_int, zk_nok_bool0, zk_nok_bool1, zk_nok_b, zk_fok_0, zk_fok_1, zk_fok_2, zk_fok_n, zk_fok_rf, zb_f, zb_p, zb_i, zb_a, zb_s, zk_nth_0, zk_nth_s, zk_fld_o, zk_put_o, zk_rv_eq, zk_ri_eq, zk_is_o, List.mem_cons, List.not_mem_nil, or_false, false_or, or_true, true_or, and_true, true_and, not_false_iff, not_true_eq_false, true_implies, false_implies, imp_self, implies_true, forall_const, zk_lit, zk_uj_ap, zk_un_ap, zk_un_un, zk_uj_uj, Nat.reduceEqDiff, eq_self, zk_bq, Bool.true_or, Bool.false_or, Nat.le_refl, Nat.zero_add, Nat.add_zero, Nat.reduceAdd, Nat.reduceLeDiff, Nat.le_zero_eq, and_self, and_false, false_and, ite_true, ite_false, Nat.zero_le, List.length_cons, List.length_nil, Option.some.injEq, forall_eq', reduceCtorEq, h3, spe_X10_turn]
    refine ⟨hb1, _, _, _, _, _, _, _, _, zk_up_same _ _ _, ?_⟩
    rw [zk_up_up, d_tt2 (hmi.2.2.1 j hj.1).2.2.2.2.2]
    have hOb2 := hOb
    unfold xdr at hOb2
    rw [up_back hOb2]
    exact h
  · rcases hxr.nodoor hmi.1 hr with q | ⟨q, q2⟩
    · (refine hG 900 _ _ _ _ ?_; simp only [r_X10_faultsWith, zk_kl_none, zk_kl_int, zk_kl_ref, zk_kl_null, zk_kl_long, zk_kl_rf, zk_isr_ref, zk_isr_null, zk_isr_rf9, zk_c1_int, zk_c1_ref, zk_c1_null, zk_c1_rf, zk_psh_some, zk_psh_none, zk_nok_int, zk_nok_bool0, zk_nok_bool1, zk_nok_b, zk_fok_0, zk_fok_1, zk_fok_2, zk_fok_n, zk_fok_rf, zb_f, zb_p, zb_i, zb_a, zb_s, zk_nth_0, zk_nth_s, zk_fld_o, zk_put_o, zk_rv_eq, zk_ri_eq, zk_is_o, List.mem_cons, List.not_mem_nil, or_false, false_or, or_true, true_or, and_true, true_and, not_false_iff, not_true_eq_false, true_implies, false_implies, imp_self, implies_true, forall_const, zk_lit, zk_uj_ap, zk_un_ap, zk_un_un, zk_uj_uj, Nat.reduceEqDiff, eq_self, zk_bq, Bool.true_or, Bool.false_or, Nat.le_refl, Nat.zero_add, Nat.add_zero, Nat.reduceAdd, Nat.reduceLeDiff, Nat.le_zero_eq, and_self, and_false, false_and, ite_true, ite_false, Nat.zero_le, List.length_cons, List.length_nil, Option.some.injEq, forall_eq', reduceCtorEq, spe_X10_doorThere, q, Bool.false_eq_true])
      exact fun z2 hz => h J N z2 (KE.refl J N) hrk hz
    · (refine hG 900 _ _ _ _ ?_; simp only [r_X10_faultsWith, zk_kl_none, zk_kl_int, zk_kl_ref, zk_kl_null, zk_kl_long, zk_kl_rf, zk_isr_ref, zk_isr_null, zk_isr_rf9, zk_c1_int, zk_c1_ref, zk_c1_null, zk_c1_rf, zk_psh_some, zk_psh_none, zk_nok_int, zk_nok_bool0, zk_nok_bool1, zk_nok_b, zk_fok_0, zk_fok_1, zk_fok_2, zk_fok_n, zk_fok_rf, zb_f, zb_p, zb_i, zb_a, zb_s, zk_nth_0, zk_nth_s, zk_fld_o, zk_put_o, zk_rv_eq, zk_ri_eq, zk_is_o, List.mem_cons, List.not_mem_nil, or_false, false_or, or_true, true_or, and_true, true_and, not_false_iff, not_true_eq_false, true_implies, false_implies, imp_self, implies_true, forall_const, zk_lit, zk_uj_ap, zk_un_ap, zk_un_un, zk_uj_uj, Nat.reduceEqDiff, eq_self, zk_bq, Bool.true_or, Bool.false_or, Nat.le_refl, Nat.zero_add, Nat.add_zero, Nat.reduceAdd, Nat.reduceLeDiff, Nat.le_zero_eq, and_self, and_false, false_and, ite_true, ite_false, Nat.zero_le, List.length_cons, List.length_nil, Option.some.injEq, forall_eq', reduceCtorEq, spe_X10_doorThere, q, q2])
      exact fun z2 hz => h J N z2 (KE.refl J N) hrk hz
theorem ct_X10_faultsWith {l : Launch} (hl : l.stackTraces = false) (E : zk_E) : zk_C l E (zk_VT E) yX10_faultsWith cX10_faultsWith 4 (some (.int)) rm_X10_faultsWith (sp_X10_faultsWith E) := by
  refine zk_meth (M := M_X10_faultsWith) (C := C_X10_faultsWith E) hl (by decide +kernel) rfl (fun _ _ => rfl) (zk_VT_ok E) MO_X10_faultsWith TO_X10_faultsWith THo_X10_faultsWith ?_ (vc_X10_faultsWith E)
  exact fun p e s m args below meth c X pc n mc ms sp2 h => by
    have h2 := zk_lka_mem h
    simp only [List.mem_cons, List.not_mem_nil, or_false, Prod.mk.injEq] at h2
    rcases h2 with ⟨rfl, rfl, rfl, rfl, rfl⟩ | ⟨rfl, rfl, rfl, rfl, rfl⟩ | ⟨rfl, rfl, rfl, rfl, rfl⟩ | ⟨rfl, rfl, rfl, rfl, rfl⟩
    · exact zk_coV (idx := 167) X (ct_X10_doorThere hl E) (List.forall_mem_cons.mpr ⟨zk_wi 23 (by decide +kernel) rfl, List.forall_mem_cons.mpr ⟨zk_wi 25 (by decide +kernel) rfl, List.forall_mem_cons.mpr ⟨zk_wp 0 (by decide +kernel) rfl, List.forall_mem_cons.mpr ⟨zk_wi 2 (by decide +kernel) rfl, List.forall_mem_cons.mpr ⟨zk_wi 27 (by decide +kernel) rfl, fun _ h => absurd h List.not_mem_nil⟩⟩⟩⟩⟩) (fun ci h => by
      have h := Nat.eq_of_beq_eq_true h
      subst h
      exact ⟨_, _, rfl⟩) (by decide +kernel) ⟨by decide, by decide, by decide +kernel⟩ ⟨by decide, by decide⟩
    · exact zk_coV (idx := 264) X (ct_X10_turn hl E) (List.forall_mem_cons.mpr ⟨zk_wi 349 (by decide +kernel) rfl, List.forall_mem_cons.mpr ⟨zk_wi 351 (by decide +kernel) rfl, List.forall_mem_cons.mpr ⟨zk_wp 6 (by decide +kernel) rfl, List.forall_mem_cons.mpr ⟨zk_wi 2 (by decide +kernel) rfl, List.forall_mem_cons.mpr ⟨zk_wi 352 (by decide +kernel) rfl, fun _ h => absurd h List.not_mem_nil⟩⟩⟩⟩⟩) (fun ci h => by
      have h := Nat.eq_of_beq_eq_true h
      subst h
      exact ⟨_, _, rfl⟩) (by decide +kernel) ⟨by decide, by decide, by decide +kernel⟩ ⟨by decide, by decide⟩
    · exact zk_coV (idx := 197) X (ct_X10_reckon hl E) (List.forall_mem_cons.mpr ⟨zk_wi 110 (by decide +kernel) rfl, List.forall_mem_cons.mpr ⟨zk_wi 112 (by decide +kernel) rfl, List.forall_mem_cons.mpr ⟨zk_wp 3 (by decide +kernel) rfl, List.forall_mem_cons.mpr ⟨zk_wi 2 (by decide +kernel) rfl, List.forall_mem_cons.mpr ⟨zk_wi 113 (by decide +kernel) rfl, fun _ h => absurd h List.not_mem_nil⟩⟩⟩⟩⟩) (fun ci h => by
      have h := Nat.eq_of_beq_eq_true h
      subst h
      exact ⟨_, _, rfl⟩) (by decide +kernel) ⟨by decide, by decide, by decide +kernel⟩ ⟨by decide, by decide⟩
    · exact zk_coV (idx := 264) X (ct_X10_turn hl E) (List.forall_mem_cons.mpr ⟨zk_wi 349 (by decide +kernel) rfl, List.forall_mem_cons.mpr ⟨zk_wi 351 (by decide +kernel) rfl, List.forall_mem_cons.mpr ⟨zk_wp 6 (by decide +kernel) rfl, List.forall_mem_cons.mpr ⟨zk_wi 2 (by decide +kernel) rfl, List.forall_mem_cons.mpr ⟨zk_wi 352 (by decide +kernel) rfl, fun _ h => absurd h List.not_mem_nil⟩⟩⟩⟩⟩) (fun ci h => by
      have h := Nat.eq_of_beq_eq_true h
      subst h
      exact ⟨_, _, rfl⟩) (by decide +kernel) ⟨by decide, by decide, by decide +kernel⟩ ⟨by decide, by decide⟩

def sp_X10_lostWithout (E : zk_E) : zk_Sp zk_S := fun av σ sz P PX => match av with
  | [.ref a, .int r] => a = zk_ad E 0 ∧ ∃ J N, IC E sz σ J N ∧ DRD J N r (fun j => (¬ N 36 j = 0 → ZC J N σ sz (some (.int 0)) P) ∧ (N 36 j = 0 → ZC J N σ sz (some (.int (a_stuck J (m_tgl N j) - a_stuck J N))) P)) (ZX J N σ sz "java/lang/IndexOutOfBoundsException" PX)
  | _ => False
theorem spe_X10_lostWithout (E : zk_E) (a : Nat) (r : Int32) (σ : zk_S) (sz : Nat) (P : zk_P zk_S) (PX : zk_X zk_S) : sp_X10_lostWithout E [.ref a, .int r] σ sz P PX = (a = zk_ad E 0 ∧ ∃ J N, IC E sz σ J N ∧ DRD J N r (fun j => (¬ N 36 j = 0 → ZC J N σ sz (some (.int 0)) P) ∧ (N 36 j = 0 → ZC J N σ sz (some (.int (a_stuck J (m_tgl N j) - a_stuck J N))) P)) (ZX J N σ sz "java/lang/IndexOutOfBoundsException" PX)) := propext Iff.rfl
def C_X10_lostWithout (E : zk_E) : zk_Cl zk_S := zk_lka [(2, 2, 1, 6, zk_rv (zk_VT E) (fun ci => Nat.beq ci 9) (sp_X10_doorThere E)), (16, 1, 0, 0, zk_rv (zk_VT E) (fun ci => Nat.beq ci 9) (sp_X10_reckon E)), (27, 2, 0, 0, zk_rv (zk_VT E) (fun ci => Nat.beq ci 7) (sp_X8_countStuck E)), (33, 2, 0, 0, zk_rv (zk_VT E) (fun ci => Nat.beq ci 9) (sp_X10_turn E)), (37, 1, 0, 0, zk_rv (zk_VT E) (fun ci => Nat.beq ci 9) (sp_X10_reckon E)), (48, 2, 0, 0, zk_rv (zk_VT E) (fun ci => Nat.beq ci 7) (sp_X8_countStuck E)), (55, 2, 0, 0, zk_rv (zk_VT E) (fun ci => Nat.beq ci 9) (sp_X10_turn E))]
theorem r_X10_lostWithout (E : zk_E) (P : zk_P zk_S) (PX : zk_X zk_S) (K : Nat → zk_L → List Value → zk_W zk_S → Prop) : (∀ (n : Nat) (l1 l2 l3 l4 : Option Value) (y0 : Value) (r : List Value) (σ : zk_S) (sz k c : Nat), zk_run E (zk_VT E) M_X10_lostWithout (C_X10_lostWithout E) P PX K (n + 1) 0 [some y0, l1, l2, l3, l4] r (σ, sz, k, c) = (zk_isr y0 ∧ zk_run E (zk_VT E) M_X10_lostWithout (C_X10_lostWithout E) P PX K n 1 [some y0, l1, l2, l3, l4] (y0 :: r) (σ, sz, k, c))) ∧
  (∀ (n : Nat) (l0 l2 l3 l4 : Option Value) (y1 : Int32) (r : List Value) (σ : zk_S) (sz k c : Nat), zk_run E (zk_VT E) M_X10_lostWithout (C_X10_lostWithout E) P PX K (n + 1) 1 [l0, some (.int y1), l2, l3, l4] r (σ, sz, k, c) = zk_run E (zk_VT E) M_X10_lostWithout (C_X10_lostWithout E) P PX K n 2 [l0, some (.int y1), l2, l3, l4] (.int y1 :: r) (σ, sz, k, c)) ∧
  (∀ (n : Nat) (l0 l1 l2 l3 l4 : Option Value) (v0 : Value) (v1 : Value)  (σ : zk_S) (sz k c : Nat), zk_run E (zk_VT E) M_X10_lostWithout (C_X10_lostWithout E) P PX K (n + 1) 2 [l0, l1, l2, l3, l4] [v0, v1] (σ, sz, k, c) = (k + 1 ≤ 1 ∧ c + 6 ≤ 6 ∧ (zk_rv (zk_VT E) (fun ci => Nat.beq ci 9) (sp_X10_doorThere E)) [v1, v0] σ sz (fun v s2 z2 => zk_run E (zk_VT E) M_X10_lostWithout (C_X10_lostWithout E) P PX K n 5 [l0, l1, l2, l3, l4] (zk_psh v []) (s2, z2, k + 1, c + 6)) (fun X s2 z2 => PX X s2 z2))) ∧
  (∀ (n : Nat) (l0 l1 l2 l3 l4 : Option Value) (x : Value) (r : List Value) (σ : zk_S) (sz k c : Nat), zk_run E (zk_VT E) M_X10_lostWithout (C_X10_lostWithout E) P PX K (n + 1) 5 [l0, l1, l2, l3, l4] (x :: r) (σ, sz, k, c) = (zk_isr x ∧ zk_run E (zk_VT E) M_X10_lostWithout (C_X10_lostWithout E) P PX K n 6 [l0, zk_kl l1, some (x), l3, l4] r (σ, sz, k, c))) ∧
  (∀ (n : Nat) (l0 l1 l3 l4 : Option Value) (y2 : Value) (r : List Value) (σ : zk_S) (sz k c : Nat), zk_run E (zk_VT E) M_X10_lostWithout (C_X10_lostWithout E) P PX K (n + 1) 6 [l0, l1, some y2, l3, l4] r (σ, sz, k, c) = (zk_isr y2 ∧ zk_run E (zk_VT E) M_X10_lostWithout (C_X10_lostWithout E) P PX K n 7 [l0, l1, some y2, l3, l4] (y2 :: r) (σ, sz, k, c))) ∧
  (∀ (n : Nat) (l0 l1 l2 l3 l4 : Option Value) (a : Nat) (r : List Value) (σ : zk_S) (sz k c : Nat), zk_run E (zk_VT E) M_X10_lostWithout (C_X10_lostWithout E) P PX K (n + 1) 7 [l0, l1, l2, l3, l4] (.ref a :: r) (σ, sz, k, c) = zk_fld (zk_view E σ a) [1] 6 (fun v => zk_run E (zk_VT E) M_X10_lostWithout (C_X10_lostWithout E) P PX K n 10 [l0, l1, l2, l3, l4] (v :: r) (σ, sz, k, c))) ∧
  (∀ (n : Nat) (l0 l1 l2 l3 l4 : Option Value) (x : Int32) (r : List Value) (σ : zk_S) (sz k c : Nat), zk_run E (zk_VT E) M_X10_lostWithout (C_X10_lostWithout E) P PX K (n + 1) 10 [l0, l1, l2, l3, l4] (.int x :: r) (σ, sz, k, c) = ((x = 0 → zk_run E (zk_VT E) M_X10_lostWithout (C_X10_lostWithout E) P PX K n 15 [l0, l1, l2, l3, l4] r (σ, sz, k, c)) ∧ (¬ (x = 0) → zk_run E (zk_VT E) M_X10_lostWithout (C_X10_lostWithout E) P PX K n 13 [l0, l1, l2, l3, l4] r (σ, sz, k, c)))) ∧
  (∀ (n : Nat) (l0 l1 l2 l3 l4 : Option Value)  (r : List Value) (σ : zk_S) (sz k c : Nat), zk_run E (zk_VT E) M_X10_lostWithout (C_X10_lostWithout E) P PX K (n + 1) 13 [l0, l1, l2, l3, l4] r (σ, sz, k, c) = zk_run E (zk_VT E) M_X10_lostWithout (C_X10_lostWithout E) P PX K n 14 [l0, l1, l2, l3, l4] (.int (0) :: r) (σ, sz, k, c)) ∧
  (∀ (n : Nat) (l0 l1 l2 l3 l4 : Option Value) (x : Int32)  (σ : zk_S) (sz k c : Nat), zk_run E (zk_VT E) M_X10_lostWithout (C_X10_lostWithout E) P PX K (n + 1) 14 [l0, l1, l2, l3, l4] [.int x] (σ, sz, k, c) = (zk_nok (some (.int)) x ∧ P (some (.int x)) σ sz ∧ k ≤ 1 ∧ c ≤ 6)) ∧
  (∀ (n : Nat) (l1 l2 l3 l4 : Option Value) (y0 : Value) (r : List Value) (σ : zk_S) (sz k c : Nat), zk_run E (zk_VT E) M_X10_lostWithout (C_X10_lostWithout E) P PX K (n + 1) 15 [some y0, l1, l2, l3, l4] r (σ, sz, k, c) = (zk_isr y0 ∧ zk_run E (zk_VT E) M_X10_lostWithout (C_X10_lostWithout E) P PX K n 16 [some y0, l1, l2, l3, l4] (y0 :: r) (σ, sz, k, c))) ∧
  (∀ (n : Nat) (l0 l1 l2 l3 l4 : Option Value) (v0 : Value)  (σ : zk_S) (sz k c : Nat), zk_run E (zk_VT E) M_X10_lostWithout (C_X10_lostWithout E) P PX K (n + 1) 16 [l0, l1, l2, l3, l4] [v0] (σ, sz, k, c) = (k + 0 ≤ 1 ∧ c + 0 ≤ 6 ∧ (zk_rv (zk_VT E) (fun ci => Nat.beq ci 9) (sp_X10_reckon E)) [v0] σ sz (fun v s2 z2 => zk_run E (zk_VT E) M_X10_lostWithout (C_X10_lostWithout E) P PX K n 19 [l0, l1, l2, l3, l4] (zk_psh v []) (s2, z2, k + 0, c + 0)) (fun X s2 z2 => PX X s2 z2))) ∧
  (∀ (n : Nat) (l1 l2 l3 l4 : Option Value) (y0 : Value) (r : List Value) (σ : zk_S) (sz k c : Nat), zk_run E (zk_VT E) M_X10_lostWithout (C_X10_lostWithout E) P PX K (n + 1) 19 [some y0, l1, l2, l3, l4] r (σ, sz, k, c) = (zk_isr y0 ∧ zk_run E (zk_VT E) M_X10_lostWithout (C_X10_lostWithout E) P PX K n 20 [some y0, l1, l2, l3, l4] (y0 :: r) (σ, sz, k, c))) ∧
  (∀ (n : Nat) (l0 l1 l2 l3 l4 : Option Value) (a : Nat) (r : List Value) (σ : zk_S) (sz k c : Nat), zk_run E (zk_VT E) M_X10_lostWithout (C_X10_lostWithout E) P PX K (n + 1) 20 [l0, l1, l2, l3, l4] (.ref a :: r) (σ, sz, k, c) = zk_fld (zk_view E σ a) [9] 1 (fun v => zk_run E (zk_VT E) M_X10_lostWithout (C_X10_lostWithout E) P PX K n 23 [l0, l1, l2, l3, l4] (v :: r) (σ, sz, k, c))) ∧
  (∀ (n : Nat) (l1 l2 l3 l4 : Option Value) (y0 : Value) (r : List Value) (σ : zk_S) (sz k c : Nat), zk_run E (zk_VT E) M_X10_lostWithout (C_X10_lostWithout E) P PX K (n + 1) 23 [some y0, l1, l2, l3, l4] r (σ, sz, k, c) = (zk_isr y0 ∧ zk_run E (zk_VT E) M_X10_lostWithout (C_X10_lostWithout E) P PX K n 24 [some y0, l1, l2, l3, l4] (y0 :: r) (σ, sz, k, c))) ∧
  (∀ (n : Nat) (l0 l1 l2 l3 l4 : Option Value) (a : Nat) (r : List Value) (σ : zk_S) (sz k c : Nat), zk_run E (zk_VT E) M_X10_lostWithout (C_X10_lostWithout E) P PX K (n + 1) 24 [l0, l1, l2, l3, l4] (.ref a :: r) (σ, sz, k, c) = zk_fld (zk_view E σ a) [9] 0 (fun v => zk_run E (zk_VT E) M_X10_lostWithout (C_X10_lostWithout E) P PX K n 27 [l0, l1, l2, l3, l4] (v :: r) (σ, sz, k, c))) ∧
  (∀ (n : Nat) (l0 l1 l2 l3 l4 : Option Value) (v0 : Value) (v1 : Value)  (σ : zk_S) (sz k c : Nat), zk_run E (zk_VT E) M_X10_lostWithout (C_X10_lostWithout E) P PX K (n + 1) 27 [l0, l1, l2, l3, l4] [v0, v1] (σ, sz, k, c) = (k + 0 ≤ 1 ∧ c + 0 ≤ 6 ∧ (zk_rv (zk_VT E) (fun ci => Nat.beq ci 7) (sp_X8_countStuck E)) [v1, v0] σ sz (fun v s2 z2 => zk_run E (zk_VT E) M_X10_lostWithout (C_X10_lostWithout E) P PX K n 30 [l0, l1, l2, l3, l4] (zk_psh v []) (s2, z2, k + 0, c + 0)) (fun X s2 z2 => PX X s2 z2))) ∧
  (∀ (n : Nat) (l0 l1 l2 l3 l4 : Option Value) (x : Int32) (r : List Value) (σ : zk_S) (sz k c : Nat), zk_run E (zk_VT E) M_X10_lostWithout (C_X10_lostWithout E) P PX K (n + 1) 30 [l0, l1, l2, l3, l4] (.int x :: r) (σ, sz, k, c) = zk_run E (zk_VT E) M_X10_lostWithout (C_X10_lostWithout E) P PX K n 31 [l0, l1, zk_kl l2, some (.int x), l4] r (σ, sz, k, c)) ∧
  (∀ (n : Nat) (l1 l2 l3 l4 : Option Value) (y0 : Value) (r : List Value) (σ : zk_S) (sz k c : Nat), zk_run E (zk_VT E) M_X10_lostWithout (C_X10_lostWithout E) P PX K (n + 1) 31 [some y0, l1, l2, l3, l4] r (σ, sz, k, c) = (zk_isr y0 ∧ zk_run E (zk_VT E) M_X10_lostWithout (C_X10_lostWithout E) P PX K n 32 [some y0, l1, l2, l3, l4] (y0 :: r) (σ, sz, k, c))) ∧
  (∀ (n : Nat) (l0 l1 l3 l4 : Option Value) (y2 : Value) (r : List Value) (σ : zk_S) (sz k c : Nat), zk_run E (zk_VT E) M_X10_lostWithout (C_X10_lostWithout E) P PX K (n + 1) 32 [l0, l1, some y2, l3, l4] r (σ, sz, k, c) = (zk_isr y2 ∧ zk_run E (zk_VT E) M_X10_lostWithout (C_X10_lostWithout E) P PX K n 33 [l0, l1, some y2, l3, l4] (y2 :: r) (σ, sz, k, c))) ∧
  (∀ (n : Nat) (l0 l1 l2 l3 l4 : Option Value) (v0 : Value) (v1 : Value)  (σ : zk_S) (sz k c : Nat), zk_run E (zk_VT E) M_X10_lostWithout (C_X10_lostWithout E) P PX K (n + 1) 33 [l0, l1, l2, l3, l4] [v0, v1] (σ, sz, k, c) = (k + 0 ≤ 1 ∧ c + 0 ≤ 6 ∧ (zk_rv (zk_VT E) (fun ci => Nat.beq ci 9) (sp_X10_turn E)) [v1, v0] σ sz (fun v s2 z2 => zk_run E (zk_VT E) M_X10_lostWithout (C_X10_lostWithout E) P PX K n 36 [l0, l1, l2, l3, l4] (zk_psh v []) (s2, z2, k + 0, c + 0)) (fun X s2 z2 => PX X s2 z2))) ∧
  (∀ (n : Nat) (l1 l2 l3 l4 : Option Value) (y0 : Value) (r : List Value) (σ : zk_S) (sz k c : Nat), zk_run E (zk_VT E) M_X10_lostWithout (C_X10_lostWithout E) P PX K (n + 1) 36 [some y0, l1, l2, l3, l4] r (σ, sz, k, c) = (zk_isr y0 ∧ zk_run E (zk_VT E) M_X10_lostWithout (C_X10_lostWithout E) P PX K n 37 [some y0, l1, l2, l3, l4] (y0 :: r) (σ, sz, k, c))) ∧
  (∀ (n : Nat) (l0 l1 l2 l3 l4 : Option Value) (v0 : Value)  (σ : zk_S) (sz k c : Nat), zk_run E (zk_VT E) M_X10_lostWithout (C_X10_lostWithout E) P PX K (n + 1) 37 [l0, l1, l2, l3, l4] [v0] (σ, sz, k, c) = (k + 0 ≤ 1 ∧ c + 0 ≤ 6 ∧ (zk_rv (zk_VT E) (fun ci => Nat.beq ci 9) (sp_X10_reckon E)) [v0] σ sz (fun v s2 z2 => zk_run E (zk_VT E) M_X10_lostWithout (C_X10_lostWithout E) P PX K n 40 [l0, l1, l2, l3, l4] (zk_psh v []) (s2, z2, k + 0, c + 0)) (fun X s2 z2 => PX X s2 z2))) ∧
  (∀ (n : Nat) (l1 l2 l3 l4 : Option Value) (y0 : Value) (r : List Value) (σ : zk_S) (sz k c : Nat), zk_run E (zk_VT E) M_X10_lostWithout (C_X10_lostWithout E) P PX K (n + 1) 40 [some y0, l1, l2, l3, l4] r (σ, sz, k, c) = (zk_isr y0 ∧ zk_run E (zk_VT E) M_X10_lostWithout (C_X10_lostWithout E) P PX K n 41 [some y0, l1, l2, l3, l4] (y0 :: r) (σ, sz, k, c))) ∧
  (∀ (n : Nat) (l0 l1 l2 l3 l4 : Option Value) (a : Nat) (r : List Value) (σ : zk_S) (sz k c : Nat), zk_run E (zk_VT E) M_X10_lostWithout (C_X10_lostWithout E) P PX K (n + 1) 41 [l0, l1, l2, l3, l4] (.ref a :: r) (σ, sz, k, c) = zk_fld (zk_view E σ a) [9] 1 (fun v => zk_run E (zk_VT E) M_X10_lostWithout (C_X10_lostWithout E) P PX K n 44 [l0, l1, l2, l3, l4] (v :: r) (σ, sz, k, c))) ∧
  (∀ (n : Nat) (l1 l2 l3 l4 : Option Value) (y0 : Value) (r : List Value) (σ : zk_S) (sz k c : Nat), zk_run E (zk_VT E) M_X10_lostWithout (C_X10_lostWithout E) P PX K (n + 1) 44 [some y0, l1, l2, l3, l4] r (σ, sz, k, c) = (zk_isr y0 ∧ zk_run E (zk_VT E) M_X10_lostWithout (C_X10_lostWithout E) P PX K n 45 [some y0, l1, l2, l3, l4] (y0 :: r) (σ, sz, k, c))) ∧
  (∀ (n : Nat) (l0 l1 l2 l3 l4 : Option Value) (a : Nat) (r : List Value) (σ : zk_S) (sz k c : Nat), zk_run E (zk_VT E) M_X10_lostWithout (C_X10_lostWithout E) P PX K (n + 1) 45 [l0, l1, l2, l3, l4] (.ref a :: r) (σ, sz, k, c) = zk_fld (zk_view E σ a) [9] 0 (fun v => zk_run E (zk_VT E) M_X10_lostWithout (C_X10_lostWithout E) P PX K n 48 [l0, l1, l2, l3, l4] (v :: r) (σ, sz, k, c))) ∧
  (∀ (n : Nat) (l0 l1 l2 l3 l4 : Option Value) (v0 : Value) (v1 : Value)  (σ : zk_S) (sz k c : Nat), zk_run E (zk_VT E) M_X10_lostWithout (C_X10_lostWithout E) P PX K (n + 1) 48 [l0, l1, l2, l3, l4] [v0, v1] (σ, sz, k, c) = (k + 0 ≤ 1 ∧ c + 0 ≤ 6 ∧ (zk_rv (zk_VT E) (fun ci => Nat.beq ci 7) (sp_X8_countStuck E)) [v1, v0] σ sz (fun v s2 z2 => zk_run E (zk_VT E) M_X10_lostWithout (C_X10_lostWithout E) P PX K n 51 [l0, l1, l2, l3, l4] (zk_psh v []) (s2, z2, k + 0, c + 0)) (fun X s2 z2 => PX X s2 z2))) ∧
  (∀ (n : Nat) (l0 l1 l2 l3 l4 : Option Value) (x : Int32) (r : List Value) (σ : zk_S) (sz k c : Nat), zk_run E (zk_VT E) M_X10_lostWithout (C_X10_lostWithout E) P PX K (n + 1) 51 [l0, l1, l2, l3, l4] (.int x :: r) (σ, sz, k, c) = zk_run E (zk_VT E) M_X10_lostWithout (C_X10_lostWithout E) P PX K n 53 [l0, l1, l2, zk_kl l3, some (.int x)] r (σ, sz, k, c)) ∧
  (∀ (n : Nat) (l1 l2 l3 l4 : Option Value) (y0 : Value) (r : List Value) (σ : zk_S) (sz k c : Nat), zk_run E (zk_VT E) M_X10_lostWithout (C_X10_lostWithout E) P PX K (n + 1) 53 [some y0, l1, l2, l3, l4] r (σ, sz, k, c) = (zk_isr y0 ∧ zk_run E (zk_VT E) M_X10_lostWithout (C_X10_lostWithout E) P PX K n 54 [some y0, l1, l2, l3, l4] (y0 :: r) (σ, sz, k, c))) ∧
  (∀ (n : Nat) (l0 l1 l3 l4 : Option Value) (y2 : Value) (r : List Value) (σ : zk_S) (sz k c : Nat), zk_run E (zk_VT E) M_X10_lostWithout (C_X10_lostWithout E) P PX K (n + 1) 54 [l0, l1, some y2, l3, l4] r (σ, sz, k, c) = (zk_isr y2 ∧ zk_run E (zk_VT E) M_X10_lostWithout (C_X10_lostWithout E) P PX K n 55 [l0, l1, some y2, l3, l4] (y2 :: r) (σ, sz, k, c))) ∧
  (∀ (n : Nat) (l0 l1 l2 l3 l4 : Option Value) (v0 : Value) (v1 : Value)  (σ : zk_S) (sz k c : Nat), zk_run E (zk_VT E) M_X10_lostWithout (C_X10_lostWithout E) P PX K (n + 1) 55 [l0, l1, l2, l3, l4] [v0, v1] (σ, sz, k, c) = (k + 0 ≤ 1 ∧ c + 0 ≤ 6 ∧ (zk_rv (zk_VT E) (fun ci => Nat.beq ci 9) (sp_X10_turn E)) [v1, v0] σ sz (fun v s2 z2 => zk_run E (zk_VT E) M_X10_lostWithout (C_X10_lostWithout E) P PX K n 58 [l0, l1, l2, l3, l4] (zk_psh v []) (s2, z2, k + 0, c + 0)) (fun X s2 z2 => PX X s2 z2))) ∧
  (∀ (n : Nat) (l0 l1 l2 l3 : Option Value) (y4 : Int32) (r : List Value) (σ : zk_S) (sz k c : Nat), zk_run E (zk_VT E) M_X10_lostWithout (C_X10_lostWithout E) P PX K (n + 1) 58 [l0, l1, l2, l3, some (.int y4)] r (σ, sz, k, c) = zk_run E (zk_VT E) M_X10_lostWithout (C_X10_lostWithout E) P PX K n 60 [l0, l1, l2, l3, some (.int y4)] (.int y4 :: r) (σ, sz, k, c)) ∧
  (∀ (n : Nat) (l0 l1 l2 l4 : Option Value) (y3 : Int32) (r : List Value) (σ : zk_S) (sz k c : Nat), zk_run E (zk_VT E) M_X10_lostWithout (C_X10_lostWithout E) P PX K (n + 1) 60 [l0, l1, l2, some (.int y3), l4] r (σ, sz, k, c) = zk_run E (zk_VT E) M_X10_lostWithout (C_X10_lostWithout E) P PX K n 61 [l0, l1, l2, some (.int y3), l4] (.int y3 :: r) (σ, sz, k, c)) ∧
  (∀ (n : Nat) (l0 l1 l2 l3 l4 : Option Value) (x y : Int32) (r : List Value) (σ : zk_S) (sz k c : Nat), zk_run E (zk_VT E) M_X10_lostWithout (C_X10_lostWithout E) P PX K (n + 1) 61 [l0, l1, l2, l3, l4] (.int y :: .int x :: r) (σ, sz, k, c) = zk_run E (zk_VT E) M_X10_lostWithout (C_X10_lostWithout E) P PX K n 62 [l0, l1, l2, l3, l4] (.int (x - y) :: r) (σ, sz, k, c)) ∧
  (∀ (n : Nat) (l0 l1 l2 l3 l4 : Option Value) (x : Int32)  (σ : zk_S) (sz k c : Nat), zk_run E (zk_VT E) M_X10_lostWithout (C_X10_lostWithout E) P PX K (n + 1) 62 [l0, l1, l2, l3, l4] [.int x] (σ, sz, k, c) = (zk_nok (some (.int)) x ∧ P (some (.int x)) σ sz ∧ k ≤ 1 ∧ c ≤ 6)) ∧
  (∀ (n : Nat) (l0 l1 l2 l3 l4 : Option Value) (r : List Value) (w : zk_W zk_S), zk_go E (zk_VT E) M_X10_lostWithout (C_X10_lostWithout E) P PX K n 0 [l0, l1, l2, l3, l4] r w = zk_run E (zk_VT E) M_X10_lostWithout (C_X10_lostWithout E) P PX K (n + 1) 0 [l0, l1, l2, l3, l4] r w) := ⟨by intros; rfl, by intros; rfl, by intros; rfl, by intros; rfl, by intros; rfl, by intros; rfl, by intros; rfl, by intros; rfl, by intros; rfl, by intros; rfl, by intros; rfl, by intros; rfl, by intros; rfl, by intros; rfl, by intros; rfl, by intros; rfl, by intros; rfl, by intros; rfl, by intros; rfl, by intros; rfl, by intros; rfl, by intros; rfl, by intros; rfl, by intros; rfl, by intros; rfl, by intros; rfl, by intros; rfl, by intros; rfl, by intros; rfl, by intros; rfl, by intros; rfl, by intros; rfl, by intros; rfl, by intros; rfl, by intros; rfl, by intros; rfl⟩
theorem vc_X10_lostWithout (E : zk_E) : zk_VC E (zk_VT E) M_X10_lostWithout (C_X10_lostWithout E) 5 (sp_X10_lostWithout E) := by
  intro av σ sz P PX h
  obtain ⟨J, N, Q, O, U⟩ := σ
  unfold sp_X10_lostWithout at h
  split at h
  case h_2 => exact h.elim
  rename_i a0 r
  obtain ⟨rfl, h⟩ := h
  refine ⟨Nat.le_of_ble_eq_true rfl, fun G hG => ?_⟩
  change G 0 [some (.ref (zk_ad E 0)), some (.int r), none, none, none] [] ((J, N, Q, O, U), sz, 0, 0)
  try dsimp only at h
  obtain ⟨J1, N1, ⟨hmi, hxr, hrk⟩, h⟩ := h
  rcases h with ⟨j, hj, rfl, h1, h2⟩ | ⟨hr, h⟩
  · obtain ⟨b, p, hb, hbo, hpo, hOb, hOp⟩ := hxr.2.2.1.door hmi.1 hj
    have hb : Q 3 j = some b := hb
    have hOb : O b = some (xdr N1 Q (fl0 N1) j p) := hOb
    have hOp : O p = some (xdp N1 j) := hOp
    have hb1 := hbo.1
    have hj40 := hj.lt hmi.1
    have in19 : m_isIn (nI j) 0 39 = true := n_isIn (by decide) hj40 (by decide)
    have hcl : (nI j).toNatClampNeg = j := n_cl (by omega)
    have g6 : ∀ F : Value → Prop, zk_fld (O b) [1] 6 F = F (.int (N1 36 j)) := fun F => by rw [hOb]; simp [zk_fld_o, xdr, cX, zk_nth]
    by_cases q : N1 36 j = 0
    · have h := h2 q
      (refine hG 900 _ _ _ _ ?_; simp only [r_X10_lostWithout, zk_kl_none, zk_kl_int, zk_kl_ref, zk_kl_null, zk_kl_long, zk_kl_rf, zk_isr_ref, zk_isr_null, zk_isr_rf9, zk_c1_int, zk_c1_ref, zk_c1_null, zk_c1_rf, zk_psh_some, zk_psh_none, zk_nok_int, zk_nok_bool0, zk_nok_bool1, zk_nok_b, zk_fok_0, zk_fok_1, zk_fok_2, zk_fok_n, zk_fok_rf, zb_f, zb_p, zb_i, zb_a, zb_s, zk_nth_0, zk_nth_s, zk_fld_o, zk_put_o, zk_rv_eq, zk_ri_eq, zk_is_o, List.mem_cons, List.not_mem_nil, or_false, false_or, or_true, true_or, and_true, true_and, not_false_iff, not_true_eq_false, true_implies, false_implies, imp_self, implies_true, forall_const, zk_lit, zk_uj_ap, zk_un_ap, zk_un_un, zk_uj_uj, Nat.reduceEqDiff, eq_self, zk_bq, Bool.true_or, Bool.false_or, Nat.le_refl, Nat.zero_add, Nat.add_zero, Nat.reduceAdd, Nat.reduceLeDiff, Nat.le_zero_eq, and_self, and_false, false_and, ite_true, ite_false, Nat.zero_le, List.length_cons, List.length_nil, Option.some.injEq, forall_eq', reduceCtorEq, spe_X10_doorThere, in19, hcl, hb, Bool.true_eq_false, zk_vd hb1, g6, q, spe_X10_reckon])
      refine ⟨J1, N1, fl0 N1, hmi, hxr, hrk, fun J2 N2 hke hcf => ?_⟩
      have hx2 : XR E sz (J2, N2, Q, O, U) J1 N1 (fl0 N1) := hxr.cn (by funext k; exact hke.1 1 k (by omega) (by omega)) (hke.2 6 (by omega))
      simp only [r_X10_lostWithout, zk_kl_none, zk_kl_int, zk_kl_ref, zk_kl_null, zk_kl_long, zk_kl_rf, zk_isr_ref, zk_isr_null, zk_isr_rf9, zk_c1_int, zk_c1_ref, zk_c1_null, zk_c1_rf, zk_psh_some, zk_psh_none, zk_nok_int, zk_nok_bool0, zk_nok_bool1, zk_nok_b, zk_fok_0, zk_fok_1, zk_fok_2, zk_fok_n, zk_fok_rf, zb_f, zb_p, zb_i, zb_a, zb_s, zk_nth_0, zk_nth_s, zk_fld_o, zk_put_o, zk_rv_eq, zk_ri_eq, zk_is_o, List.mem_cons, List.not_mem_nil, or_false, false_or, or_true, true_or, and_true, true_and, not_false_iff, not_true_eq_false, true_implies, false_implies, imp_self, implies_true, forall_const, zk_lit, zk_uj_ap, zk_un_ap, zk_un_un, zk_uj_uj, Nat.reduceEqDiff, eq_self, zk_bq, Bool.true_or, Bool.false_or, Nat.le_refl, Nat.zero_add, Nat.add_zero, Nat.reduceAdd, Nat.reduceLeDiff, Nat.le_zero_eq, and_self, and_false, false_and, ite_true, ite_false, Nat.zero_le, List.length_cons, List.length_nil, Option.some.injEq, forall_eq', reduceCtorEq, spe_X8_countStuck]
      refine ⟨J1, N1, fl0 N1, hmi, hx2, hcf.2.1.wd, ?_⟩
      have hx3 := hx2.tgl hj40 hb hpo hOb hOp (J2 := zk_uj J2 0 4 0) (N2 := N2) rfl rfl
      simp only [r_X10_lostWithout, zk_kl_none, zk_kl_int, zk_kl_ref, zk_kl_null, zk_kl_long, zk_kl_rf, zk_isr_ref, zk_isr_null, zk_isr_rf9, zk_c1_int, zk_c1_ref, zk_c1_null, zk_c1_rf, zk_psh_some, zk_psh_none, zk_nok_int, zk_nok_bool0, zk_nok_bool1, zk_nok_b, zk_fok_0, zk_fok_1, zk_fok_2, zk_fok_n, zk_fok_rf, zb_f, zb_p, zb_i, zb_a, zb_s, zk_nth_0, zk_nth_s, zk_fld_o, zk_put_o, zk_rv_eq, zk_ri_eq, zk_is_o, List.mem_cons, List.not_mem_nil, or_false, false_or, or_true, true_or, and_true, true_and, not_false_iff, not_true_eq_false, true_implies, false_implies, imp_self, implies_true, forall_const, zk_lit, zk_uj_ap, zk_un_ap, zk_un_un, zk_uj_uj, Nat.reduceEqDiff, eq_self, zk_bq, Bool.true_or, Bool.false_or, Nat.le_refl, Nat.zero_add, Nat.add_zero, Nat.reduceAdd, Nat.reduceLeDiff, Nat.le_zero_eq, and_self, and_false, false_and, ite_true, ite_false, Nat.zero_le, List.length_cons, List.length_nil, Option.some.injEq, forall_eq', reduceCtorEq, spe_X10_turn]
      refine ⟨hb1, _, _, _, _, _, _, _, _, hOb, ?_⟩
      simp only [r_X10_lostWithout, zk_kl_none, zk_kl_int, zk_kl_ref, zk_kl_null, zk_kl_long, zk_kl_rf, zk_isr_ref, zk_isr_null, zk_isr_rf9, zk_c1_int, zk_c1_ref, zk_c1_null, zk_c1_rf, zk_psh_some, zk_psh_none, zk_nok_int, zk_nok_bool0, zk_nok_bool1, zk_nok_b, zk_fok_0, zk_fok_1, zk_fok_2, zk_fok_n, zk_fok_rf, zb_f, zb_p, zb_i, zb_a, zb_s, zk_nth_0, zk_nth_s, zk_fld_o, zk_put_o, zk_rv_eq, zk_ri_eq, zk_is_o, List.mem_cons, List.not_mem_nil, or_false, false_or, or_true, true_or, and_true, true_and, not_false_iff, not_true_eq_false, true_implies, false_implies, imp_self, implies_true, forall_const, zk_lit, zk_uj_ap, zk_un_ap, zk_un_un, zk_uj_uj, Nat.reduceEqDiff, eq_self, zk_bq, Bool.true_or, Bool.false_or, Nat.le_refl, Nat.zero_add, Nat.add_zero, Nat.reduceAdd, Nat.reduceLeDiff, Nat.le_zero_eq, and_self, and_false, false_and, ite_true, ite_false, Nat.zero_le, List.length_cons, List.length_nil, Option.some.injEq, forall_eq', reduceCtorEq, spe_X10_reckon]
      refine ⟨J1, m_tgl N1 j, fl0 (m_tgl N1 j), hmi.tgl hj.1, hx3, fun J3 N3 hke3 hcf3 => ?_⟩
      have hx4 := hx3.cn (J2 := J3) (N2 := N3) (U2 := U) (by funext k; exact hke3.1 1 k (by omega) (by omega)) (hke3.2 6 (by omega))
      simp only [r_X10_lostWithout, zk_kl_none, zk_kl_int, zk_kl_ref, zk_kl_null, zk_kl_long, zk_kl_rf, zk_isr_ref, zk_isr_null, zk_isr_rf9, zk_c1_int, zk_c1_ref, zk_c1_null, zk_c1_rf, zk_psh_some, zk_psh_none, zk_nok_int, zk_nok_bool0, zk_nok_bool1, zk_nok_b, zk_fok_0, zk_fok_1, zk_fok_2, zk_fok_n, zk_fok_rf, zb_f, zb_p, zb_i, zb_a, zb_s, zk_nth_0, zk_nth_s, zk_fld_o, zk_put_o, zk_rv_eq, zk_ri_eq, zk_is_o, List.mem_cons, List.not_mem_nil, or_false, false_or, or_true, true_or, and_true, true_and, not_false_iff, not_true_eq_false, true_implies, false_implies, imp_self, implies_true, forall_const, zk_lit, zk_uj_ap, zk_un_ap, zk_un_un, zk_uj_uj, Nat.reduceEqDiff, eq_self, zk_bq, Bool.true_or, Bool.false_or, Nat.le_refl, Nat.zero_add, Nat.add_zero, Nat.reduceAdd, Nat.reduceLeDiff, Nat.le_zero_eq, and_self, and_false, false_and, ite_true, ite_false, Nat.zero_le, List.length_cons, List.length_nil, Option.some.injEq, forall_eq', reduceCtorEq, spe_X8_countStuck]
      refine ⟨J1, m_tgl N1 j, fl0 (m_tgl N1 j), hmi.tgl hj.1, hx4, hcf3.2.1.wd, ?_⟩
      have h := h (zk_uj J3 0 4 0) N3 (hke.trans hke3.zl).zr (Or.inl rfl)
      simp only [r_X10_lostWithout, zk_kl_none, zk_kl_int, zk_kl_ref, zk_kl_null, zk_kl_long, zk_kl_rf, zk_isr_ref, zk_isr_null, zk_isr_rf9, zk_c1_int, zk_c1_ref, zk_c1_null, zk_c1_rf, zk_psh_some, zk_psh_none, zk_nok_int, zk_nok_bool0, zk_nok_bool1, zk_nok_b, zk_fok_0, zk_fok_1, zk_fok_2, zk_fok_n, zk_fok_rf, zb_f, zb_p, zb_i, zb_a, zb_s, zk_nth_0, zk_nth_s, zk_fld_o, zk_put_o, zk_rv_eq, zk_ri_eq, zk_is_o, List.mem_cons, List.not_mem_nil, or_false, false_or, or_true, true_or, and_true, true_and, not_false_iff, not_true_eq_false, true_implies, false_implies, imp_self, implies_true, forall_const, zk_lit, zk_uj_ap, zk_un_ap, zk_un_un, zk_uj_uj, Nat.reduceEqDiff, eq_self, zk_bq, Bool.true_or, Bool.false_or, Nat.le_refl, Nat.zero_add, Nat.add_zero, Nat.reduceAdd, Nat.reduceLeDiff, Nat.le_zero_eq, and_self, and_false, false_and, ite_true, ite_false, Nat.zero_le, List.length_cons, List.length_nil, Option.some.injEq, forall_eq', reduceCtorEq, spe_X10_turn]
      refine ⟨hb1, _, _, _, _, _, _, _, _, zk_up_same _ _ _, ?_⟩
      rw [zk_up_up, d_tt2 (hmi.2.2.1 j hj.1).2.2.2.2.2]
      have hOb2 := hOb
      unfold xdr at hOb2
      rw [up_back hOb2]
      exact h
    · have h := h1 q J N (KE.refl J N) hrk
      (refine hG 900 _ _ _ _ ?_; simp only [r_X10_lostWithout, zk_kl_none, zk_kl_int, zk_kl_ref, zk_kl_null, zk_kl_long, zk_kl_rf, zk_isr_ref, zk_isr_null, zk_isr_rf9, zk_c1_int, zk_c1_ref, zk_c1_null, zk_c1_rf, zk_psh_some, zk_psh_none, zk_nok_int, zk_nok_bool0, zk_nok_bool1, zk_nok_b, zk_fok_0, zk_fok_1, zk_fok_2, zk_fok_n, zk_fok_rf, zb_f, zb_p, zb_i, zb_a, zb_s, zk_nth_0, zk_nth_s, zk_fld_o, zk_put_o, zk_rv_eq, zk_ri_eq, zk_is_o, List.mem_cons, List.not_mem_nil, or_false, false_or, or_true, true_or, and_true, true_and, not_false_iff, not_true_eq_false, true_implies, false_implies, imp_self, implies_true, forall_const, zk_lit, zk_uj_ap, zk_un_ap, zk_un_un, zk_uj_uj, Nat.reduceEqDiff, eq_self, zk_bq, Bool.true_or, Bool.false_or, Nat.le_refl, Nat.zero_add, Nat.add_zero, Nat.reduceAdd, Nat.reduceLeDiff, Nat.le_zero_eq, and_self, and_false, false_and, ite_true, ite_false, Nat.zero_le, List.length_cons, List.length_nil, Option.some.injEq, forall_eq', reduceCtorEq, spe_X10_doorThere, in19, hcl, hb, Bool.true_eq_false, zk_vd hb1, g6, q])
      exact h
  · rcases hxr.nodoor hmi.1 hr with q | ⟨q, q2⟩
    · (refine hG 900 _ _ _ _ ?_; simp only [r_X10_lostWithout, zk_kl_none, zk_kl_int, zk_kl_ref, zk_kl_null, zk_kl_long, zk_kl_rf, zk_isr_ref, zk_isr_null, zk_isr_rf9, zk_c1_int, zk_c1_ref, zk_c1_null, zk_c1_rf, zk_psh_some, zk_psh_none, zk_nok_int, zk_nok_bool0, zk_nok_bool1, zk_nok_b, zk_fok_0, zk_fok_1, zk_fok_2, zk_fok_n, zk_fok_rf, zb_f, zb_p, zb_i, zb_a, zb_s, zk_nth_0, zk_nth_s, zk_fld_o, zk_put_o, zk_rv_eq, zk_ri_eq, zk_is_o, List.mem_cons, List.not_mem_nil, or_false, false_or, or_true, true_or, and_true, true_and, not_false_iff, not_true_eq_false, true_implies, false_implies, imp_self, implies_true, forall_const, zk_lit, zk_uj_ap, zk_un_ap, zk_un_un, zk_uj_uj, Nat.reduceEqDiff, eq_self, zk_bq, Bool.true_or, Bool.false_or, Nat.le_refl, Nat.zero_add, Nat.add_zero, Nat.reduceAdd, Nat.reduceLeDiff, Nat.le_zero_eq, and_self, and_false, false_and, ite_true, ite_false, Nat.zero_le, List.length_cons, List.length_nil, Option.some.injEq, forall_eq', reduceCtorEq, spe_X10_doorThere, q, Bool.false_eq_true])
      exact fun z2 hz => h J N z2 (KE.refl J N) hrk hz
    · (refine hG 900 _ _ _ _ ?_; simp only [r_X10_lostWithout, zk_kl_none, zk_kl_int, zk_kl_ref, zk_kl_null, zk_kl_long, zk_kl_rf, zk_isr_ref, zk_isr_null, zk_isr_rf9, zk_c1_int, zk_c1_ref, zk_c1_null, zk_c1_rf, zk_psh_some, zk_psh_none, zk_nok_int, zk_nok_bool0, zk_nok_bool1, zk_nok_b, zk_fok_0, zk_fok_1, zk_fok_2, zk_fok_n, zk_fok_rf, zb_f, zb_p, zb_i, zb_a, zb_s, zk_nth_0, zk_nth_s, zk_fld_o, zk_put_o, zk_rv_eq, zk_ri_eq, zk_is_o, List.mem_cons, List.not_mem_nil, or_false, false_or, or_true, true_or, and_true, true_and, not_false_iff, not_true_eq_false, true_implies, false_implies, imp_self, implies_true, forall_const, zk_lit, zk_uj_ap, zk_un_ap, zk_un_un, zk_uj_uj, Nat.reduceEqDiff, eq_self, zk_bq, Bool.true_or, Bool.false_or, Nat.le_refl, Nat.zero_add, Nat.add_zero, Nat.reduceAdd, Nat.reduceLeDiff, Nat.le_zero_eq, and_self, and_false, false_and, ite_true, ite_false, Nat.zero_le, List.length_cons, List.length_nil, Option.some.injEq, forall_eq', reduceCtorEq, spe_X10_doorThere, q, q2])
      exact fun z2 hz => h J N z2 (KE.refl J N) hrk hz
theorem ct_X10_lostWithout {l : Launch} (hl : l.stackTraces = false) (E : zk_E) : zk_C l E (zk_VT E) yX10_lostWithout cX10_lostWithout 5 (some (.int)) rm_X10_lostWithout (sp_X10_lostWithout E) := by
  refine zk_meth (M := M_X10_lostWithout) (C := C_X10_lostWithout E) hl (by decide +kernel) rfl (fun _ _ => rfl) (zk_VT_ok E) MO_X10_lostWithout TO_X10_lostWithout THo_X10_lostWithout ?_ (vc_X10_lostWithout E)
  exact fun p e s m args below meth c X pc n mc ms sp2 h => by
    have h2 := zk_lka_mem h
    simp only [List.mem_cons, List.not_mem_nil, or_false, Prod.mk.injEq] at h2
    rcases h2 with ⟨rfl, rfl, rfl, rfl, rfl⟩ | ⟨rfl, rfl, rfl, rfl, rfl⟩ | ⟨rfl, rfl, rfl, rfl, rfl⟩ | ⟨rfl, rfl, rfl, rfl, rfl⟩ | ⟨rfl, rfl, rfl, rfl, rfl⟩ | ⟨rfl, rfl, rfl, rfl, rfl⟩ | ⟨rfl, rfl, rfl, rfl, rfl⟩
    · exact zk_coV (idx := 167) X (ct_X10_doorThere hl E) (List.forall_mem_cons.mpr ⟨zk_wi 23 (by decide +kernel) rfl, List.forall_mem_cons.mpr ⟨zk_wi 25 (by decide +kernel) rfl, List.forall_mem_cons.mpr ⟨zk_wp 0 (by decide +kernel) rfl, List.forall_mem_cons.mpr ⟨zk_wi 2 (by decide +kernel) rfl, List.forall_mem_cons.mpr ⟨zk_wi 27 (by decide +kernel) rfl, fun _ h => absurd h List.not_mem_nil⟩⟩⟩⟩⟩) (fun ci h => by
      have h := Nat.eq_of_beq_eq_true h
      subst h
      exact ⟨_, _, rfl⟩) (by decide +kernel) ⟨by decide, by decide, by decide +kernel⟩ ⟨by decide, by decide⟩
    · exact zk_coV (idx := 197) X (ct_X10_reckon hl E) (List.forall_mem_cons.mpr ⟨zk_wi 110 (by decide +kernel) rfl, List.forall_mem_cons.mpr ⟨zk_wi 112 (by decide +kernel) rfl, List.forall_mem_cons.mpr ⟨zk_wp 3 (by decide +kernel) rfl, List.forall_mem_cons.mpr ⟨zk_wi 2 (by decide +kernel) rfl, List.forall_mem_cons.mpr ⟨zk_wi 113 (by decide +kernel) rfl, fun _ h => absurd h List.not_mem_nil⟩⟩⟩⟩⟩) (fun ci h => by
      have h := Nat.eq_of_beq_eq_true h
      subst h
      exact ⟨_, _, rfl⟩) (by decide +kernel) ⟨by decide, by decide, by decide +kernel⟩ ⟨by decide, by decide⟩
    · exact zk_coV (idx := 268) X (ct_X8_countStuck hl E) (List.forall_mem_cons.mpr ⟨zk_wi 357 (by decide +kernel) rfl, List.forall_mem_cons.mpr ⟨zk_wi 358 (by decide +kernel) rfl, List.forall_mem_cons.mpr ⟨zk_wi 359 (by decide +kernel) rfl, List.forall_mem_cons.mpr ⟨zk_wi 4 (by decide +kernel) rfl, List.forall_mem_cons.mpr ⟨zk_wi 360 (by decide +kernel) rfl, fun _ h => absurd h List.not_mem_nil⟩⟩⟩⟩⟩) (fun ci h => by
      have h := Nat.eq_of_beq_eq_true h
      subst h
      exact ⟨_, _, rfl⟩) (by decide +kernel) ⟨by decide, by decide, by decide +kernel⟩ ⟨by decide, by decide⟩
    · exact zk_coV (idx := 264) X (ct_X10_turn hl E) (List.forall_mem_cons.mpr ⟨zk_wi 349 (by decide +kernel) rfl, List.forall_mem_cons.mpr ⟨zk_wi 351 (by decide +kernel) rfl, List.forall_mem_cons.mpr ⟨zk_wp 6 (by decide +kernel) rfl, List.forall_mem_cons.mpr ⟨zk_wi 2 (by decide +kernel) rfl, List.forall_mem_cons.mpr ⟨zk_wi 352 (by decide +kernel) rfl, fun _ h => absurd h List.not_mem_nil⟩⟩⟩⟩⟩) (fun ci h => by
      have h := Nat.eq_of_beq_eq_true h
      subst h
      exact ⟨_, _, rfl⟩) (by decide +kernel) ⟨by decide, by decide, by decide +kernel⟩ ⟨by decide, by decide⟩
    · exact zk_coV (idx := 197) X (ct_X10_reckon hl E) (List.forall_mem_cons.mpr ⟨zk_wi 110 (by decide +kernel) rfl, List.forall_mem_cons.mpr ⟨zk_wi 112 (by decide +kernel) rfl, List.forall_mem_cons.mpr ⟨zk_wp 3 (by decide +kernel) rfl, List.forall_mem_cons.mpr ⟨zk_wi 2 (by decide +kernel) rfl, List.forall_mem_cons.mpr ⟨zk_wi 113 (by decide +kernel) rfl, fun _ h => absurd h List.not_mem_nil⟩⟩⟩⟩⟩) (fun ci h => by
      have h := Nat.eq_of_beq_eq_true h
      subst h
      exact ⟨_, _, rfl⟩) (by decide +kernel) ⟨by decide, by decide, by decide +kernel⟩ ⟨by decide, by decide⟩
    · exact zk_coV (idx := 268) X (ct_X8_countStuck hl E) (List.forall_mem_cons.mpr ⟨zk_wi 357 (by decide +kernel) rfl, List.forall_mem_cons.mpr ⟨zk_wi 358 (by decide +kernel) rfl, List.forall_mem_cons.mpr ⟨zk_wi 359 (by decide +kernel) rfl, List.forall_mem_cons.mpr ⟨zk_wi 4 (by decide +kernel) rfl, List.forall_mem_cons.mpr ⟨zk_wi 360 (by decide +kernel) rfl, fun _ h => absurd h List.not_mem_nil⟩⟩⟩⟩⟩) (fun ci h => by
      have h := Nat.eq_of_beq_eq_true h
      subst h
      exact ⟨_, _, rfl⟩) (by decide +kernel) ⟨by decide, by decide, by decide +kernel⟩ ⟨by decide, by decide⟩
    · exact zk_coV (idx := 264) X (ct_X10_turn hl E) (List.forall_mem_cons.mpr ⟨zk_wi 349 (by decide +kernel) rfl, List.forall_mem_cons.mpr ⟨zk_wi 351 (by decide +kernel) rfl, List.forall_mem_cons.mpr ⟨zk_wp 6 (by decide +kernel) rfl, List.forall_mem_cons.mpr ⟨zk_wi 2 (by decide +kernel) rfl, List.forall_mem_cons.mpr ⟨zk_wi 352 (by decide +kernel) rfl, fun _ h => absurd h List.not_mem_nil⟩⟩⟩⟩⟩) (fun ci h => by
      have h := Nat.eq_of_beq_eq_true h
      subst h
      exact ⟨_, _, rfl⟩) (by decide +kernel) ⟨by decide, by decide, by decide +kernel⟩ ⟨by decide, by decide⟩

def sp_X10_timeWith (E : zk_E) : zk_Sp zk_S := fun av σ sz P PX => match av with
  | [.ref a, .int r, .int w] => a = zk_ad E 0 ∧ ∃ J N, IC E sz σ J N ∧ DRD J N r (fun j => (m_isIn w 1 6 = false → ZX J N σ sz "java/lang/IllegalArgumentException" PX) ∧ (m_isIn w 1 6 = true → ZC J N σ sz (some (.int (a_time J N (nI j) w.toNatClampNeg))) P)) (ZX J N σ sz "java/lang/IndexOutOfBoundsException" PX)
  | _ => False
theorem spe_X10_timeWith (E : zk_E) (a : Nat) (r : Int32) (w : Int32) (σ : zk_S) (sz : Nat) (P : zk_P zk_S) (PX : zk_X zk_S) : sp_X10_timeWith E [.ref a, .int r, .int w] σ sz P PX = (a = zk_ad E 0 ∧ ∃ J N, IC E sz σ J N ∧ DRD J N r (fun j => (m_isIn w 1 6 = false → ZX J N σ sz "java/lang/IllegalArgumentException" PX) ∧ (m_isIn w 1 6 = true → ZC J N σ sz (some (.int (a_time J N (nI j) w.toNatClampNeg))) P)) (ZX J N σ sz "java/lang/IndexOutOfBoundsException" PX)) := propext Iff.rfl
def C_X10_timeWith (E : zk_E) : zk_Cl zk_S := zk_lka [(2, 2, 1, 6, zk_rv (zk_VT E) (fun ci => Nat.beq ci 9) (sp_X10_doorThere E)), (10, 3, 0, 0, sp_X10_isWithin E), (28, 1, 0, 0, zk_rv (zk_VT E) (fun ci => Nat.beq ci 9) (sp_X10_reckon E)), (56, 3, 0, 0, zk_rv (zk_VT E) (fun ci => Nat.beq ci 0) (sp_X0_ticksTillOut E))]
theorem r_X10_timeWith (E : zk_E) (P : zk_P zk_S) (PX : zk_X zk_S) (K : Nat → zk_L → List Value → zk_W zk_S → Prop) : (∀ (n : Nat) (l1 l2 l3 l4 l5 : Option Value) (y0 : Value) (r : List Value) (σ : zk_S) (sz k c : Nat), zk_run E (zk_VT E) M_X10_timeWith (C_X10_timeWith E) P PX K (n + 1) 0 [some y0, l1, l2, l3, l4, l5] r (σ, sz, k, c) = (zk_isr y0 ∧ zk_run E (zk_VT E) M_X10_timeWith (C_X10_timeWith E) P PX K n 1 [some y0, l1, l2, l3, l4, l5] (y0 :: r) (σ, sz, k, c))) ∧
  (∀ (n : Nat) (l0 l2 l3 l4 l5 : Option Value) (y1 : Int32) (r : List Value) (σ : zk_S) (sz k c : Nat), zk_run E (zk_VT E) M_X10_timeWith (C_X10_timeWith E) P PX K (n + 1) 1 [l0, some (.int y1), l2, l3, l4, l5] r (σ, sz, k, c) = zk_run E (zk_VT E) M_X10_timeWith (C_X10_timeWith E) P PX K n 2 [l0, some (.int y1), l2, l3, l4, l5] (.int y1 :: r) (σ, sz, k, c)) ∧
  (∀ (n : Nat) (l0 l1 l2 l3 l4 l5 : Option Value) (v0 : Value) (v1 : Value)  (σ : zk_S) (sz k c : Nat), zk_run E (zk_VT E) M_X10_timeWith (C_X10_timeWith E) P PX K (n + 1) 2 [l0, l1, l2, l3, l4, l5] [v0, v1] (σ, sz, k, c) = (k + 1 ≤ 2 ∧ c + 6 ≤ 12 ∧ (zk_rv (zk_VT E) (fun ci => Nat.beq ci 9) (sp_X10_doorThere E)) [v1, v0] σ sz (fun v s2 z2 => zk_run E (zk_VT E) M_X10_timeWith (C_X10_timeWith E) P PX K n 5 [l0, l1, l2, l3, l4, l5] (zk_psh v []) (s2, z2, k + 1, c + 6)) (fun X s2 z2 => PX X s2 z2))) ∧
  (∀ (n : Nat) (l0 l1 l2 l3 l4 l5 : Option Value) (x : Value) (r : List Value) (σ : zk_S) (sz k c : Nat), zk_run E (zk_VT E) M_X10_timeWith (C_X10_timeWith E) P PX K (n + 1) 5 [l0, l1, l2, l3, l4, l5] (x :: r) (σ, sz, k, c) = (zk_isr x ∧ zk_run E (zk_VT E) M_X10_timeWith (C_X10_timeWith E) P PX K n 6 [l0, l1, zk_kl l2, some (x), l4, l5] r (σ, sz, k, c))) ∧
  (∀ (n : Nat) (l0 l1 l3 l4 l5 : Option Value) (y2 : Int32) (r : List Value) (σ : zk_S) (sz k c : Nat), zk_run E (zk_VT E) M_X10_timeWith (C_X10_timeWith E) P PX K (n + 1) 6 [l0, l1, some (.int y2), l3, l4, l5] r (σ, sz, k, c) = zk_run E (zk_VT E) M_X10_timeWith (C_X10_timeWith E) P PX K n 7 [l0, l1, some (.int y2), l3, l4, l5] (.int y2 :: r) (σ, sz, k, c)) ∧
  (∀ (n : Nat) (l0 l1 l2 l3 l4 l5 : Option Value)  (r : List Value) (σ : zk_S) (sz k c : Nat), zk_run E (zk_VT E) M_X10_timeWith (C_X10_timeWith E) P PX K (n + 1) 7 [l0, l1, l2, l3, l4, l5] r (σ, sz, k, c) = zk_run E (zk_VT E) M_X10_timeWith (C_X10_timeWith E) P PX K n 8 [l0, l1, l2, l3, l4, l5] (.int (1) :: r) (σ, sz, k, c)) ∧
  (∀ (n : Nat) (l0 l1 l2 l3 l4 l5 : Option Value)  (r : List Value) (σ : zk_S) (sz k c : Nat), zk_run E (zk_VT E) M_X10_timeWith (C_X10_timeWith E) P PX K (n + 1) 8 [l0, l1, l2, l3, l4, l5] r (σ, sz, k, c) = zk_run E (zk_VT E) M_X10_timeWith (C_X10_timeWith E) P PX K n 10 [l0, l1, l2, l3, l4, l5] (.int (6) :: r) (σ, sz, k, c)) ∧
  (∀ (n : Nat) (l0 l1 l2 l3 l4 l5 : Option Value) (v0 : Value) (v1 : Value) (v2 : Value)  (σ : zk_S) (sz k c : Nat), zk_run E (zk_VT E) M_X10_timeWith (C_X10_timeWith E) P PX K (n + 1) 10 [l0, l1, l2, l3, l4, l5] [v0, v1, v2] (σ, sz, k, c) = (k + 0 ≤ 2 ∧ c + 0 ≤ 12 ∧ (sp_X10_isWithin E) [v2, v1, v0] σ sz (fun v s2 z2 => zk_run E (zk_VT E) M_X10_timeWith (C_X10_timeWith E) P PX K n 13 [l0, l1, l2, l3, l4, l5] (zk_psh v []) (s2, z2, k + 0, c + 0)) (fun X s2 z2 => PX X s2 z2))) ∧
  (∀ (n : Nat) (l0 l1 l2 l3 l4 l5 : Option Value) (x : Int32) (r : List Value) (σ : zk_S) (sz k c : Nat), zk_run E (zk_VT E) M_X10_timeWith (C_X10_timeWith E) P PX K (n + 1) 13 [l0, l1, l2, l3, l4, l5] (.int x :: r) (σ, sz, k, c) = ((¬ x = 0 → zk_run E (zk_VT E) M_X10_timeWith (C_X10_timeWith E) P PX K n 27 [l0, l1, l2, l3, l4, l5] r (σ, sz, k, c)) ∧ (¬ (¬ x = 0) → zk_run E (zk_VT E) M_X10_timeWith (C_X10_timeWith E) P PX K n 16 [l0, l1, l2, l3, l4, l5] r (σ, sz, k, c)))) ∧
  (∀ (n : Nat) (l0 l1 l2 l3 l4 l5 : Option Value)   (σ : zk_S) (sz k c : Nat), zk_run E (zk_VT E) M_X10_timeWith (C_X10_timeWith E) P PX K (n + 1) 16 [l0, l1, l2, l3, l4, l5] [] (σ, sz, k, c) = (([] : List Value) = [] ∧ (∀ z2, sz ≤ z2 → PX "java/lang/IllegalArgumentException" σ z2) ∧ k + 1 ≤ 2 ∧ c + 6 ≤ 12)) ∧
  (∀ (n : Nat) (l1 l2 l3 l4 l5 : Option Value) (y0 : Value) (r : List Value) (σ : zk_S) (sz k c : Nat), zk_run E (zk_VT E) M_X10_timeWith (C_X10_timeWith E) P PX K (n + 1) 27 [some y0, l1, l2, l3, l4, l5] r (σ, sz, k, c) = (zk_isr y0 ∧ zk_run E (zk_VT E) M_X10_timeWith (C_X10_timeWith E) P PX K n 28 [some y0, l1, l2, l3, l4, l5] (y0 :: r) (σ, sz, k, c))) ∧
  (∀ (n : Nat) (l0 l1 l2 l3 l4 l5 : Option Value) (v0 : Value)  (σ : zk_S) (sz k c : Nat), zk_run E (zk_VT E) M_X10_timeWith (C_X10_timeWith E) P PX K (n + 1) 28 [l0, l1, l2, l3, l4, l5] [v0] (σ, sz, k, c) = (k + 0 ≤ 2 ∧ c + 0 ≤ 12 ∧ (zk_rv (zk_VT E) (fun ci => Nat.beq ci 9) (sp_X10_reckon E)) [v0] σ sz (fun v s2 z2 => zk_run E (zk_VT E) M_X10_timeWith (C_X10_timeWith E) P PX K n 31 [l0, l1, l2, l3, l4, l5] (zk_psh v []) (s2, z2, k + 0, c + 0)) (fun X s2 z2 => PX X s2 z2))) ∧
  (∀ (n : Nat) (l0 l1 l2 l4 l5 : Option Value) (y3 : Value) (r : List Value) (σ : zk_S) (sz k c : Nat), zk_run E (zk_VT E) M_X10_timeWith (C_X10_timeWith E) P PX K (n + 1) 31 [l0, l1, l2, some y3, l4, l5] r (σ, sz, k, c) = (zk_isr y3 ∧ zk_run E (zk_VT E) M_X10_timeWith (C_X10_timeWith E) P PX K n 32 [l0, l1, l2, some y3, l4, l5] (y3 :: r) (σ, sz, k, c))) ∧
  (∀ (n : Nat) (l0 l1 l2 l3 l4 l5 : Option Value) (a : Nat) (r : List Value) (σ : zk_S) (sz k c : Nat), zk_run E (zk_VT E) M_X10_timeWith (C_X10_timeWith E) P PX K (n + 1) 32 [l0, l1, l2, l3, l4, l5] (.ref a :: r) (σ, sz, k, c) = zk_fld (zk_view E σ a) [1] 5 (fun v => zk_run E (zk_VT E) M_X10_timeWith (C_X10_timeWith E) P PX K n 35 [l0, l1, l2, l3, l4, l5] (v :: r) (σ, sz, k, c))) ∧
  (∀ (n : Nat) (l0 l1 l2 l3 l4 l5 : Option Value) (x : Int32) (r : List Value) (σ : zk_S) (sz k c : Nat), zk_run E (zk_VT E) M_X10_timeWith (C_X10_timeWith E) P PX K (n + 1) 35 [l0, l1, l2, l3, l4, l5] (.int x :: r) (σ, sz, k, c) = zk_run E (zk_VT E) M_X10_timeWith (C_X10_timeWith E) P PX K n 37 [l0, l1, l2, zk_kl l3, some (.int x), l5] r (σ, sz, k, c)) ∧
  (∀ (n : Nat) (l0 l1 l2 l4 l5 : Option Value) (y3 : Value) (r : List Value) (σ : zk_S) (sz k c : Nat), zk_run E (zk_VT E) M_X10_timeWith (C_X10_timeWith E) P PX K (n + 1) 37 [l0, l1, l2, some y3, l4, l5] r (σ, sz, k, c) = (zk_isr y3 ∧ zk_run E (zk_VT E) M_X10_timeWith (C_X10_timeWith E) P PX K n 38 [l0, l1, l2, some y3, l4, l5] (y3 :: r) (σ, sz, k, c))) ∧
  (∀ (n : Nat) (l0 l1 l3 l4 l5 : Option Value) (y2 : Int32) (r : List Value) (σ : zk_S) (sz k c : Nat), zk_run E (zk_VT E) M_X10_timeWith (C_X10_timeWith E) P PX K (n + 1) 38 [l0, l1, some (.int y2), l3, l4, l5] r (σ, sz, k, c) = zk_run E (zk_VT E) M_X10_timeWith (C_X10_timeWith E) P PX K n 39 [l0, l1, some (.int y2), l3, l4, l5] (.int y2 :: r) (σ, sz, k, c)) ∧
  (∀ (n : Nat) (l0 l1 l2 l3 l4 l5 : Option Value)  (r : List Value) (σ : zk_S) (sz k c : Nat), zk_run E (zk_VT E) M_X10_timeWith (C_X10_timeWith E) P PX K (n + 1) 39 [l0, l1, l2, l3, l4, l5] r (σ, sz, k, c) = zk_run E (zk_VT E) M_X10_timeWith (C_X10_timeWith E) P PX K n 40 [l0, l1, l2, l3, l4, l5] (.int (2) :: r) (σ, sz, k, c)) ∧
  (∀ (n : Nat) (l0 l1 l2 l3 l4 l5 : Option Value) (x y : Int32) (r : List Value) (σ : zk_S) (sz k c : Nat), zk_run E (zk_VT E) M_X10_timeWith (C_X10_timeWith E) P PX K (n + 1) 40 [l0, l1, l2, l3, l4, l5] (.int y :: .int x :: r) (σ, sz, k, c) = zk_run E (zk_VT E) M_X10_timeWith (C_X10_timeWith E) P PX K n 41 [l0, l1, l2, l3, l4, l5] (.int (x * y) :: r) (σ, sz, k, c)) ∧
  (∀ (n : Nat) (l0 l1 l2 l3 l4 l5 : Option Value) (a : Nat) (v : Value) (r : List Value) (σ : zk_S) (sz k c : Nat), zk_run E (zk_VT E) M_X10_timeWith (C_X10_timeWith E) P PX K (n + 1) 41 [l0, l1, l2, l3, l4, l5] (v :: .ref a :: r) (σ, sz, k, c) = zk_put (zk_view E σ a) [1] 5 0 v (zk_pfok E σ a 5 v ∧ zk_run E (zk_VT E) M_X10_timeWith (C_X10_timeWith E) P PX K n 44 [l0, l1, l2, l3, l4, l5] r (zk_pf E σ a 5 v, sz, k, c))) ∧
  (∀ (n : Nat) (l1 l2 l3 l4 l5 : Option Value) (y0 : Value) (r : List Value) (σ : zk_S) (sz k c : Nat), zk_run E (zk_VT E) M_X10_timeWith (C_X10_timeWith E) P PX K (n + 1) 44 [some y0, l1, l2, l3, l4, l5] r (σ, sz, k, c) = (zk_isr y0 ∧ zk_run E (zk_VT E) M_X10_timeWith (C_X10_timeWith E) P PX K n 45 [some y0, l1, l2, l3, l4, l5] (y0 :: r) (σ, sz, k, c))) ∧
  (∀ (n : Nat) (l0 l1 l2 l3 l4 l5 : Option Value) (a : Nat) (r : List Value) (σ : zk_S) (sz k c : Nat), zk_run E (zk_VT E) M_X10_timeWith (C_X10_timeWith E) P PX K (n + 1) 45 [l0, l1, l2, l3, l4, l5] (.ref a :: r) (σ, sz, k, c) = zk_fld (zk_view E σ a) [9] 2 (fun v => zk_run E (zk_VT E) M_X10_timeWith (C_X10_timeWith E) P PX K n 48 [l0, l1, l2, l3, l4, l5] (v :: r) (σ, sz, k, c))) ∧
  (∀ (n : Nat) (l1 l2 l3 l4 l5 : Option Value) (y0 : Value) (r : List Value) (σ : zk_S) (sz k c : Nat), zk_run E (zk_VT E) M_X10_timeWith (C_X10_timeWith E) P PX K (n + 1) 48 [some y0, l1, l2, l3, l4, l5] r (σ, sz, k, c) = (zk_isr y0 ∧ zk_run E (zk_VT E) M_X10_timeWith (C_X10_timeWith E) P PX K n 49 [some y0, l1, l2, l3, l4, l5] (y0 :: r) (σ, sz, k, c))) ∧
  (∀ (n : Nat) (l0 l1 l2 l3 l4 l5 : Option Value) (a : Nat) (r : List Value) (σ : zk_S) (sz k c : Nat), zk_run E (zk_VT E) M_X10_timeWith (C_X10_timeWith E) P PX K (n + 1) 49 [l0, l1, l2, l3, l4, l5] (.ref a :: r) (σ, sz, k, c) = zk_fld (zk_view E σ a) [9] 0 (fun v => zk_run E (zk_VT E) M_X10_timeWith (C_X10_timeWith E) P PX K n 52 [l0, l1, l2, l3, l4, l5] (v :: r) (σ, sz, k, c))) ∧
  (∀ (n : Nat) (l1 l2 l3 l4 l5 : Option Value) (y0 : Value) (r : List Value) (σ : zk_S) (sz k c : Nat), zk_run E (zk_VT E) M_X10_timeWith (C_X10_timeWith E) P PX K (n + 1) 52 [some y0, l1, l2, l3, l4, l5] r (σ, sz, k, c) = (zk_isr y0 ∧ zk_run E (zk_VT E) M_X10_timeWith (C_X10_timeWith E) P PX K n 53 [some y0, l1, l2, l3, l4, l5] (y0 :: r) (σ, sz, k, c))) ∧
  (∀ (n : Nat) (l0 l1 l2 l3 l4 l5 : Option Value) (a : Nat) (r : List Value) (σ : zk_S) (sz k c : Nat), zk_run E (zk_VT E) M_X10_timeWith (C_X10_timeWith E) P PX K (n + 1) 53 [l0, l1, l2, l3, l4, l5] (.ref a :: r) (σ, sz, k, c) = zk_fld (zk_view E σ a) [9] 1 (fun v => zk_run E (zk_VT E) M_X10_timeWith (C_X10_timeWith E) P PX K n 56 [l0, l1, l2, l3, l4, l5] (v :: r) (σ, sz, k, c))) ∧
  (∀ (n : Nat) (l0 l1 l2 l3 l4 l5 : Option Value) (v0 : Value) (v1 : Value) (v2 : Value)  (σ : zk_S) (sz k c : Nat), zk_run E (zk_VT E) M_X10_timeWith (C_X10_timeWith E) P PX K (n + 1) 56 [l0, l1, l2, l3, l4, l5] [v0, v1, v2] (σ, sz, k, c) = (k + 0 ≤ 2 ∧ c + 0 ≤ 12 ∧ (zk_rv (zk_VT E) (fun ci => Nat.beq ci 0) (sp_X0_ticksTillOut E)) [v2, v1, v0] σ sz (fun v s2 z2 => zk_run E (zk_VT E) M_X10_timeWith (C_X10_timeWith E) P PX K n 59 [l0, l1, l2, l3, l4, l5] (zk_psh v []) (s2, z2, k + 0, c + 0)) (fun X s2 z2 => PX X s2 z2))) ∧
  (∀ (n : Nat) (l0 l1 l2 l3 l4 l5 : Option Value) (x : Int32) (r : List Value) (σ : zk_S) (sz k c : Nat), zk_run E (zk_VT E) M_X10_timeWith (C_X10_timeWith E) P PX K (n + 1) 59 [l0, l1, l2, l3, l4, l5] (.int x :: r) (σ, sz, k, c) = zk_run E (zk_VT E) M_X10_timeWith (C_X10_timeWith E) P PX K n 61 [l0, l1, l2, l3, zk_kl l4, some (.int x)] r (σ, sz, k, c)) ∧
  (∀ (n : Nat) (l0 l1 l2 l4 l5 : Option Value) (y3 : Value) (r : List Value) (σ : zk_S) (sz k c : Nat), zk_run E (zk_VT E) M_X10_timeWith (C_X10_timeWith E) P PX K (n + 1) 61 [l0, l1, l2, some y3, l4, l5] r (σ, sz, k, c) = (zk_isr y3 ∧ zk_run E (zk_VT E) M_X10_timeWith (C_X10_timeWith E) P PX K n 62 [l0, l1, l2, some y3, l4, l5] (y3 :: r) (σ, sz, k, c))) ∧
  (∀ (n : Nat) (l0 l1 l2 l3 l5 : Option Value) (y4 : Int32) (r : List Value) (σ : zk_S) (sz k c : Nat), zk_run E (zk_VT E) M_X10_timeWith (C_X10_timeWith E) P PX K (n + 1) 62 [l0, l1, l2, l3, some (.int y4), l5] r (σ, sz, k, c) = zk_run E (zk_VT E) M_X10_timeWith (C_X10_timeWith E) P PX K n 64 [l0, l1, l2, l3, some (.int y4), l5] (.int y4 :: r) (σ, sz, k, c)) ∧
  (∀ (n : Nat) (l0 l1 l2 l3 l4 l5 : Option Value) (a : Nat) (v : Value) (r : List Value) (σ : zk_S) (sz k c : Nat), zk_run E (zk_VT E) M_X10_timeWith (C_X10_timeWith E) P PX K (n + 1) 64 [l0, l1, l2, l3, l4, l5] (v :: .ref a :: r) (σ, sz, k, c) = zk_put (zk_view E σ a) [1] 5 0 v (zk_pfok E σ a 5 v ∧ zk_run E (zk_VT E) M_X10_timeWith (C_X10_timeWith E) P PX K n 67 [l0, l1, l2, l3, l4, l5] r (zk_pf E σ a 5 v, sz, k, c))) ∧
  (∀ (n : Nat) (l0 l1 l2 l3 l4 : Option Value) (y5 : Int32) (r : List Value) (σ : zk_S) (sz k c : Nat), zk_run E (zk_VT E) M_X10_timeWith (C_X10_timeWith E) P PX K (n + 1) 67 [l0, l1, l2, l3, l4, some (.int y5)] r (σ, sz, k, c) = zk_run E (zk_VT E) M_X10_timeWith (C_X10_timeWith E) P PX K n 69 [l0, l1, l2, l3, l4, some (.int y5)] (.int y5 :: r) (σ, sz, k, c)) ∧
  (∀ (n : Nat) (l0 l1 l2 l3 l4 l5 : Option Value) (x : Int32)  (σ : zk_S) (sz k c : Nat), zk_run E (zk_VT E) M_X10_timeWith (C_X10_timeWith E) P PX K (n + 1) 69 [l0, l1, l2, l3, l4, l5] [.int x] (σ, sz, k, c) = (zk_nok (some (.int)) x ∧ P (some (.int x)) σ sz ∧ k ≤ 2 ∧ c ≤ 12)) ∧
  (∀ (n : Nat) (l0 l1 l2 l3 l4 l5 : Option Value) (r : List Value) (w : zk_W zk_S), zk_go E (zk_VT E) M_X10_timeWith (C_X10_timeWith E) P PX K n 0 [l0, l1, l2, l3, l4, l5] r w = zk_run E (zk_VT E) M_X10_timeWith (C_X10_timeWith E) P PX K (n + 1) 0 [l0, l1, l2, l3, l4, l5] r w) := ⟨by intros; rfl, by intros; rfl, by intros; rfl, by intros; rfl, by intros; rfl, by intros; rfl, by intros; rfl, by intros; rfl, by intros; rfl, by intros; rfl, by intros; rfl, by intros; rfl, by intros; rfl, by intros; rfl, by intros; rfl, by intros; rfl, by intros; rfl, by intros; rfl, by intros; rfl, by intros; rfl, by intros; rfl, by intros; rfl, by intros; rfl, by intros; rfl, by intros; rfl, by intros; rfl, by intros; rfl, by intros; rfl, by intros; rfl, by intros; rfl, by intros; rfl, by intros; rfl, by intros; rfl, by intros; rfl⟩
theorem vc_X10_timeWith (E : zk_E) : zk_VC E (zk_VT E) M_X10_timeWith (C_X10_timeWith E) 6 (sp_X10_timeWith E) := by
  intro av σ sz P PX h
  obtain ⟨J, N, Q, O, U⟩ := σ
  unfold sp_X10_timeWith at h
  split at h
  case h_2 => exact h.elim
  rename_i a0 r w
  obtain ⟨rfl, h⟩ := h
  refine ⟨Nat.le_of_ble_eq_true rfl, fun G hG => ?_⟩
  change G 0 [some (.ref (zk_ad E 0)), some (.int r), some (.int w), none, none, none] [] ((J, N, Q, O, U), sz, 0, 0)
  try dsimp only at h
  obtain ⟨J1, N1, ⟨hmi, hxr, hrk⟩, h⟩ := h
  rcases h with ⟨j, hj, rfl, h1, h2⟩ | ⟨hr, h⟩
  · obtain ⟨b, p, hb, hbo, hpo, hOb, hOp⟩ := hxr.2.2.1.door hmi.1 hj
    have hb : Q 3 j = some b := hb
    have hOb : O b = some (xdr N1 Q (fl0 N1) j p) := hOb
    have hOp : O p = some (xdp N1 j) := hOp
    have hb1 := hbo.1
    have hj40 := hj.lt hmi.1
    have in19 : m_isIn (nI j) 0 39 = true := n_isIn (by decide) hj40 (by decide)
    have hcl : (nI j).toNatClampNeg = j := n_cl (by omega)
    cases q : m_isIn w 1 6 with
    | false =>
      have h := h1 q
      (refine hG 900 _ _ _ _ ?_; simp only [r_X10_timeWith, zk_kl_none, zk_kl_int, zk_kl_ref, zk_kl_null, zk_kl_long, zk_kl_rf, zk_isr_ref, zk_isr_null, zk_isr_rf9, zk_c1_int, zk_c1_ref, zk_c1_null, zk_c1_rf, zk_psh_some, zk_psh_none, zk_nok_int, zk_nok_bool0, zk_nok_bool1, zk_nok_b, zk_fok_0, zk_fok_1, zk_fok_2, zk_fok_n, zk_fok_rf, zb_f, zb_p, zb_i, zb_a, zb_s, zk_nth_0, zk_nth_s, zk_fld_o, zk_put_o, zk_rv_eq, zk_ri_eq, zk_is_o, List.mem_cons, List.not_mem_nil, or_false, false_or, or_true, true_or, and_true, true_and, not_false_iff, not_true_eq_false, true_implies, false_implies, imp_self, implies_true, forall_const, zk_lit, zk_uj_ap, zk_un_ap, zk_un_un, zk_uj_uj, Nat.reduceEqDiff, eq_self, zk_bq, Bool.true_or, Bool.false_or, Nat.le_refl, Nat.zero_add, Nat.add_zero, Nat.reduceAdd, Nat.reduceLeDiff, Nat.le_zero_eq, and_self, and_false, false_and, ite_true, ite_false, Nat.zero_le, List.length_cons, List.length_nil, Option.some.injEq, forall_eq', reduceCtorEq, spe_X10_doorThere, in19, hcl, hb, Bool.true_eq_false, spe_X10_isWithin, q, zk_b0])
      exact fun z2 hz => h J N z2 (KE.refl J N) hrk hz
    | true =>
      have h := h2 q
      obtain ⟨t, t1, t6, rfl⟩ := m_isIn_6 q
      rw [n_cl (by omega)] at h
      (refine hG 900 _ _ _ _ ?_; simp only [r_X10_timeWith, zk_kl_none, zk_kl_int, zk_kl_ref, zk_kl_null, zk_kl_long, zk_kl_rf, zk_isr_ref, zk_isr_null, zk_isr_rf9, zk_c1_int, zk_c1_ref, zk_c1_null, zk_c1_rf, zk_psh_some, zk_psh_none, zk_nok_int, zk_nok_bool0, zk_nok_bool1, zk_nok_b, zk_fok_0, zk_fok_1, zk_fok_2, zk_fok_n, zk_fok_rf, zb_f, zb_p, zb_i, zb_a, zb_s, zk_nth_0, zk_nth_s, zk_fld_o, zk_put_o, zk_rv_eq, zk_ri_eq, zk_is_o, List.mem_cons, List.not_mem_nil, or_false, false_or, or_true, true_or, and_true, true_and, not_false_iff, not_true_eq_false, true_implies, false_implies, imp_self, implies_true, forall_const, zk_lit, zk_uj_ap, zk_un_ap, zk_un_un, zk_uj_uj, Nat.reduceEqDiff, eq_self, zk_bq, Bool.true_or, Bool.false_or, Nat.le_refl, Nat.zero_add, Nat.add_zero, Nat.reduceAdd, Nat.reduceLeDiff, Nat.le_zero_eq, and_self, and_false, false_and, ite_true, ite_false, Nat.zero_le, List.length_cons, List.length_nil, Option.some.injEq, forall_eq', reduceCtorEq, spe_X10_doorThere, in19, hcl, hb, Bool.true_eq_false, spe_X10_isWithin, q, zk_b0, spe_X10_reckon])
      refine ⟨J1, N1, fl0 N1, hmi, hxr, hrk, fun J2 N2 hke hcf => ?_⟩
      have hx2 : XR E sz (J2, N2, Q, O, U) J1 N1 (fl0 N1) := hxr.cn (by funext k; exact hke.1 1 k (by omega) (by omega)) (hke.2 6 (by omega))
      have g5 : ∀ F : Value → Prop, zk_fld (O b) [1] 5 F = F (.int (fl0 N1 j)) := fun F => by rw [hOb]; simp [zk_fld_o, xdr, cX, zk_nth]
      have pu : ∀ x, zk_po O b 5 (.int x) = zk_up O b (xdr2 N1 Q j x (N1 36 j) p) := fun x => po_up hOb 5 (.int x)
      have gp : ∀ x F, zk_put (O b) [1] 5 0 (.int x) F = F := fun x F => by rw [hOb]; simp [zk_put_o, xdr, cX, zk_fok]
      have hx3 := hx2.set hj40 hb hpo hOb hOp (J2 := J2) (N2 := N2) rfl rfl (nI t * 2) (N1 36 j)
      have e36 : zk_un N1 36 (upd (N1 36) j (N1 36 j)) = N1 := by rw [upd_same]; funext o; unfold zk_un; split <;> simp_all
      rw [e36] at hx3
      have hfl : FLD J1 N1 (upd (fl0 N1) j (nI t * 2)) (nI j) t := fun d hd hm => by
        unfold t_fl
        rw [if_pos hd]
        by_cases w : d = j
        · rw [w, upd_self, if_pos rfl, show (2 : Int32) = nI 2 from rfl, n_mul, Nat.mul_comm]
        · rw [upd_ne _ _ w, if_neg (by rw [n_inj (by omega) (by omega)]; exact w)]
          have := fl0_ok hmi d hd hm
          unfold t_fl at this
          rw [if_pos hd, if_neg (nI_ne1 (by omega))] at this
          exact this
      simp only [r_X10_timeWith, zk_kl_none, zk_kl_int, zk_kl_ref, zk_kl_null, zk_kl_long, zk_kl_rf, zk_isr_ref, zk_isr_null, zk_isr_rf9, zk_c1_int, zk_c1_ref, zk_c1_null, zk_c1_rf, zk_psh_some, zk_psh_none, zk_nok_int, zk_nok_bool0, zk_nok_bool1, zk_nok_b, zk_fok_0, zk_fok_1, zk_fok_2, zk_fok_n, zk_fok_rf, zb_f, zb_p, zb_i, zb_a, zb_s, zk_nth_0, zk_nth_s, zk_fld_o, zk_put_o, zk_rv_eq, zk_ri_eq, zk_is_o, List.mem_cons, List.not_mem_nil, or_false, false_or, or_true, true_or, and_true, true_and, not_false_iff, not_true_eq_false, true_implies, false_implies, imp_self, implies_true, forall_const, zk_lit, zk_uj_ap, zk_un_ap, zk_un_un, zk_uj_uj, Nat.reduceEqDiff, eq_self, zk_bq, Bool.true_or, Bool.false_or, Nat.le_refl, Nat.zero_add, Nat.add_zero, Nat.reduceAdd, Nat.reduceLeDiff, Nat.le_zero_eq, and_self, and_false, false_and, ite_true, ite_false, Nat.zero_le, List.length_cons, List.length_nil, Option.some.injEq, forall_eq', reduceCtorEq, zk_vd hb1, g5, zk_pfd _ _ hb1, zk_pod _ _ hb1, pu, gp, spe_X0_ticksTillOut]
      refine ⟨J1, N1, _, nI j, t, hmi, hx3, hfl, t6, hcf.2.1.wl, hcf.2.1.wd, fun A B => ?_⟩
      have h := h J2 (zk_un (zk_un N2 17 B) 16 A) ((hke.un B (by decide)).un A (by decide)) (Or.inr hcf.un)
      have hO2 := zk_up_same O b (xdr2 N1 Q j (nI t * 2) (N1 36 j) p)
      generalize hEq : zk_up O b (xdr2 N1 Q j (nI t * 2) (N1 36 j) p) = O2 at hO2 hx3
      have pu2 : ∀ x, zk_po O2 b 5 (.int x) = zk_up O2 b (xdr2 N1 Q j x (N1 36 j) p) := fun x => po_up hO2 5 (.int x)
      have gp2 : ∀ x F, zk_put (O2 b) [1] 5 0 (.int x) F = F := fun x F => by rw [hO2]; simp [zk_put_o, xdr2, cX, zk_fok]
      simp only [r_X10_timeWith, zk_kl_none, zk_kl_int, zk_kl_ref, zk_kl_null, zk_kl_long, zk_kl_rf, zk_isr_ref, zk_isr_null, zk_isr_rf9, zk_c1_int, zk_c1_ref, zk_c1_null, zk_c1_rf, zk_psh_some, zk_psh_none, zk_nok_int, zk_nok_bool0, zk_nok_bool1, zk_nok_b, zk_fok_0, zk_fok_1, zk_fok_2, zk_fok_n, zk_fok_rf, zb_f, zb_p, zb_i, zb_a, zb_s, zk_nth_0, zk_nth_s, zk_fld_o, zk_put_o, zk_rv_eq, zk_ri_eq, zk_is_o, List.mem_cons, List.not_mem_nil, or_false, false_or, or_true, true_or, and_true, true_and, not_false_iff, not_true_eq_false, true_implies, false_implies, imp_self, implies_true, forall_const, zk_lit, zk_uj_ap, zk_un_ap, zk_un_un, zk_uj_uj, Nat.reduceEqDiff, eq_self, zk_bq, Bool.true_or, Bool.false_or, Nat.le_refl, Nat.zero_add, Nat.add_zero, Nat.reduceAdd, Nat.reduceLeDiff, Nat.le_zero_eq, and_self, and_false, false_and, ite_true, ite_false, Nat.zero_le, List.length_cons, List.length_nil, Option.some.injEq, forall_eq', reduceCtorEq, zk_vd hb1, zk_pfd _ _ hb1, zk_pod _ _ hb1, pu2, gp2]
      have hOb2 : O b = some (xdr2 N1 Q j (fl0 N1 j) (N1 36 j) p) := hOb
      rw [← hEq, zk_up_up, up_back hOb2]
      exact h
  · rcases hxr.nodoor hmi.1 hr with q | ⟨q, q2⟩
    · (refine hG 900 _ _ _ _ ?_; simp only [r_X10_timeWith, zk_kl_none, zk_kl_int, zk_kl_ref, zk_kl_null, zk_kl_long, zk_kl_rf, zk_isr_ref, zk_isr_null, zk_isr_rf9, zk_c1_int, zk_c1_ref, zk_c1_null, zk_c1_rf, zk_psh_some, zk_psh_none, zk_nok_int, zk_nok_bool0, zk_nok_bool1, zk_nok_b, zk_fok_0, zk_fok_1, zk_fok_2, zk_fok_n, zk_fok_rf, zb_f, zb_p, zb_i, zb_a, zb_s, zk_nth_0, zk_nth_s, zk_fld_o, zk_put_o, zk_rv_eq, zk_ri_eq, zk_is_o, List.mem_cons, List.not_mem_nil, or_false, false_or, or_true, true_or, and_true, true_and, not_false_iff, not_true_eq_false, true_implies, false_implies, imp_self, implies_true, forall_const, zk_lit, zk_uj_ap, zk_un_ap, zk_un_un, zk_uj_uj, Nat.reduceEqDiff, eq_self, zk_bq, Bool.true_or, Bool.false_or, Nat.le_refl, Nat.zero_add, Nat.add_zero, Nat.reduceAdd, Nat.reduceLeDiff, Nat.le_zero_eq, and_self, and_false, false_and, ite_true, ite_false, Nat.zero_le, List.length_cons, List.length_nil, Option.some.injEq, forall_eq', reduceCtorEq, spe_X10_doorThere, q, Bool.false_eq_true])
      exact fun z2 hz => h J N z2 (KE.refl J N) hrk hz
    · (refine hG 900 _ _ _ _ ?_; simp only [r_X10_timeWith, zk_kl_none, zk_kl_int, zk_kl_ref, zk_kl_null, zk_kl_long, zk_kl_rf, zk_isr_ref, zk_isr_null, zk_isr_rf9, zk_c1_int, zk_c1_ref, zk_c1_null, zk_c1_rf, zk_psh_some, zk_psh_none, zk_nok_int, zk_nok_bool0, zk_nok_bool1, zk_nok_b, zk_fok_0, zk_fok_1, zk_fok_2, zk_fok_n, zk_fok_rf, zb_f, zb_p, zb_i, zb_a, zb_s, zk_nth_0, zk_nth_s, zk_fld_o, zk_put_o, zk_rv_eq, zk_ri_eq, zk_is_o, List.mem_cons, List.not_mem_nil, or_false, false_or, or_true, true_or, and_true, true_and, not_false_iff, not_true_eq_false, true_implies, false_implies, imp_self, implies_true, forall_const, zk_lit, zk_uj_ap, zk_un_ap, zk_un_un, zk_uj_uj, Nat.reduceEqDiff, eq_self, zk_bq, Bool.true_or, Bool.false_or, Nat.le_refl, Nat.zero_add, Nat.add_zero, Nat.reduceAdd, Nat.reduceLeDiff, Nat.le_zero_eq, and_self, and_false, false_and, ite_true, ite_false, Nat.zero_le, List.length_cons, List.length_nil, Option.some.injEq, forall_eq', reduceCtorEq, spe_X10_doorThere, q, q2])
      exact fun z2 hz => h J N z2 (KE.refl J N) hrk hz
theorem ct_X10_timeWith {l : Launch} (hl : l.stackTraces = false) (E : zk_E) : zk_C l E (zk_VT E) yX10_timeWith cX10_timeWith 6 (some (.int)) rm_X10_timeWith (sp_X10_timeWith E) := by
  refine zk_meth (M := M_X10_timeWith) (C := C_X10_timeWith E) hl (by decide +kernel) rfl (fun _ _ => rfl) (zk_VT_ok E) MO_X10_timeWith TO_X10_timeWith THo_X10_timeWith ?_ (vc_X10_timeWith E)
  exact fun p e s m args below meth c X pc n mc ms sp2 h => by
    have h2 := zk_lka_mem h
    simp only [List.mem_cons, List.not_mem_nil, or_false, Prod.mk.injEq] at h2
    rcases h2 with ⟨rfl, rfl, rfl, rfl, rfl⟩ | ⟨rfl, rfl, rfl, rfl, rfl⟩ | ⟨rfl, rfl, rfl, rfl, rfl⟩ | ⟨rfl, rfl, rfl, rfl, rfl⟩
    · exact zk_coV (idx := 167) X (ct_X10_doorThere hl E) (List.forall_mem_cons.mpr ⟨zk_wi 23 (by decide +kernel) rfl, List.forall_mem_cons.mpr ⟨zk_wi 25 (by decide +kernel) rfl, List.forall_mem_cons.mpr ⟨zk_wp 0 (by decide +kernel) rfl, List.forall_mem_cons.mpr ⟨zk_wi 2 (by decide +kernel) rfl, List.forall_mem_cons.mpr ⟨zk_wi 27 (by decide +kernel) rfl, fun _ h => absurd h List.not_mem_nil⟩⟩⟩⟩⟩) (fun ci h => by
      have h := Nat.eq_of_beq_eq_true h
      subst h
      exact ⟨_, _, rfl⟩) (by decide +kernel) ⟨by decide, by decide, by decide +kernel⟩ ⟨by decide, by decide⟩
    · exact zk_coS (idx := 41) X (ct_X10_isWithin hl E) (List.forall_mem_cons.mpr ⟨zk_wi 28 (by decide +kernel) rfl, List.forall_mem_cons.mpr ⟨zk_wi 29 (by decide +kernel) rfl, List.forall_mem_cons.mpr ⟨zk_wi 2 (by decide +kernel) rfl, List.forall_mem_cons.mpr ⟨zk_wi 30 (by decide +kernel) rfl, fun _ h => absurd h List.not_mem_nil⟩⟩⟩⟩) (by decide +kernel) ⟨by decide, by decide, by decide +kernel⟩ ⟨by decide, by decide⟩
    · exact zk_coV (idx := 197) X (ct_X10_reckon hl E) (List.forall_mem_cons.mpr ⟨zk_wi 110 (by decide +kernel) rfl, List.forall_mem_cons.mpr ⟨zk_wi 112 (by decide +kernel) rfl, List.forall_mem_cons.mpr ⟨zk_wp 3 (by decide +kernel) rfl, List.forall_mem_cons.mpr ⟨zk_wi 2 (by decide +kernel) rfl, List.forall_mem_cons.mpr ⟨zk_wi 113 (by decide +kernel) rfl, fun _ h => absurd h List.not_mem_nil⟩⟩⟩⟩⟩) (fun ci h => by
      have h := Nat.eq_of_beq_eq_true h
      subst h
      exact ⟨_, _, rfl⟩) (by decide +kernel) ⟨by decide, by decide, by decide +kernel⟩ ⟨by decide, by decide⟩
    · exact zk_coV (idx := 227) X (ct_X0_ticksTillOut hl E) (List.forall_mem_cons.mpr ⟨zk_wi 257 (by decide +kernel) rfl, List.forall_mem_cons.mpr ⟨zk_wi 258 (by decide +kernel) rfl, List.forall_mem_cons.mpr ⟨zk_wi 259 (by decide +kernel) rfl, List.forall_mem_cons.mpr ⟨zk_wi 5 (by decide +kernel) rfl, List.forall_mem_cons.mpr ⟨zk_wi 260 (by decide +kernel) rfl, fun _ h => absurd h List.not_mem_nil⟩⟩⟩⟩⟩) (fun ci h => by
      have h := Nat.eq_of_beq_eq_true h
      subst h
      exact ⟨_, _, rfl⟩) (by decide +kernel) ⟨by decide, by decide, by decide +kernel⟩ ⟨by decide, by decide⟩


