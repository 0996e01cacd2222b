/-! the reference: what is told of rooms and exits -/
def SV (J N : Nat → Nat → Int32) : Prop := RW J N (m_act J N) ∧ (∀ e ∈ m_act J N, N 47 e = nI (LL J N e)) ∧ ∀ j, j < m_nr J → N 48 j = g_lv (lea J N j) ∧ N 49 j = nI (BB J N j).1 ∧ N 50 j = g_deep J N j
theorem SO.sv {J J2 N N2 : Nat → Nat → Int32} (h : SO J J2 N N2) : SV J2 N2 := by
  obtain ⟨-, h2, h3, h4, h5⟩ := h
  have es := h2.es
  unfold SV
  rw [es.act, es.ll, es.nr, es.lea, es.bb, es.deep]
  exact ⟨h3, h4, h5⟩
theorem SO.thr {J J2 N N2 : Nat → Nat → Int32} (h : SO J J2 N N2) : J2 22 0 = J 22 0 := by rw [h.1]; rfl
/-- a question changes no more than the reference's own rows -/
def QE (J J2 N N2 : Nat → Nat → Int32) (t : Int32) : Prop := SE J J2 N N2 ∧ J2 22 0 = t
theorem QE.es {J J2 N N2 : Nat → Nat → Int32} {t : Int32} (h : QE J J2 N N2 t) : ES J J2 N N2 := h.1.es
theorem QE.thr (J N : Nat → Nat → Int32) (t : Int32) : QE J (zk_uj J 22 0 t) N N t := ⟨(SE.refl J N).uj (by decide), by unfold zk_uj; rw [if_pos ⟨rfl, rfl⟩]⟩
theorem QE.so {J J1 J2 N N1 N2 : Nat → Nat → Int32} {t : Int32} (h : QE J J1 N N1 t) (h2 : SO J1 J2 N1 N2) : QE J J2 N N2 t := ⟨h.1.trans h2.2.1, h2.thr.trans h.2⟩
theorem QE.trans {J J1 J2 N N1 N2 : Nat → Nat → Int32} {t t2 : Int32} (h : QE J J1 N N1 t) (h2 : QE J1 J2 N1 N2 t2) : QE J J2 N N2 t2 := ⟨h.1.trans h2.1, h2.2⟩
def MD (J N : Nat → Nat → Int32) (d : Nat) : Prop := d < m_nd J ∧ ¬ N 30 d = -2
def MT (J N : Nat → Nat → Int32) (s : Nat) : Prop := s < m_ns J ∧ ¬ N 42 s = -2
def RD (J N : Nat → Nat → Int32) (r : Int32) (A : Nat → Prop) (B : Prop) : Prop := (∃ j, MR J N j ∧ r = nI j ∧ A j) ∨ (m_isRoom J N r = false ∧ B)
def DRD (J N : Nat → Nat → Int32) (r : Int32) (A : Nat → Prop) (B : Prop) : Prop := (∃ j, MD J N j ∧ r = nI j ∧ A j) ∨ (m_isDoor J N r = false ∧ B)
def TRD (J N : Nat → Nat → Int32) (r : Int32) (A : Nat → Prop) (B : Prop) : Prop := (∃ j, MT J N j ∧ r = nI j ∧ A j) ∨ (m_isStairs J N r = false ∧ B)
theorem m_isRoom_t {J N : Nat → Nat → Int32} {j : Nat} (hms : MS J) (h : MR J N j) : m_isRoom J N (nI j) = true := by
  have := hms.1.2
  have := h.1
  unfold m_isRoom
  rw [hms.1.1, m_isIn_nI (by omega) h.1, n_cl (by omega), decide_eq_true h.2]
  rfl
theorem m_isRoom_f {J N : Nat → Nat → Int32} {r : Int32} (hms : MS J) (h : m_isRoom J N r = true) : ∃ j, MR J N j ∧ r = nI j := by
  have := hms.1.2
  unfold m_isRoom at h
  rw [Bool.and_eq_true, hms.1.1] at h
  obtain ⟨j, hj, rfl⟩ := m_isIn_lt (by omega) h.1
  rw [n_cl (by omega)] at h
  exact ⟨j, ⟨hj, of_decide_eq_true h.2⟩, rfl⟩
theorem m_isDoor_t {J N : Nat → Nat → Int32} {j : Nat} (hms : MS J) (h : MD J N j) : m_isDoor J N (nI j) = true := by
  have := hms.2.1.2
  have := h.1
  unfold m_isDoor
  rw [hms.2.1.1, m_isIn_nI (by omega) h.1, n_cl (by omega), decide_eq_true h.2]
  rfl
theorem m_isDoor_f {J N : Nat → Nat → Int32} {r : Int32} (hms : MS J) (h : m_isDoor J N r = true) : ∃ j, MD J N j ∧ r = nI j := by
  have := hms.2.1.2
  unfold m_isDoor at h
  rw [Bool.and_eq_true, hms.2.1.1] at h
  obtain ⟨j, hj, rfl⟩ := m_isIn_lt (by omega) h.1
  rw [n_cl (by omega)] at h
  exact ⟨j, ⟨hj, of_decide_eq_true h.2⟩, rfl⟩
theorem m_isStairs_t {J N : Nat → Nat → Int32} {j : Nat} (hms : MS J) (h : MT J N j) : m_isStairs J N (nI j) = true := by
  have := hms.2.2.2.2
  have := h.1
  unfold m_isStairs
  rw [hms.2.2.2.1, m_isIn_nI (by omega) h.1, n_cl (by omega), decide_eq_true h.2]
  rfl
theorem m_isStairs_f {J N : Nat → Nat → Int32} {r : Int32} (hms : MS J) (h : m_isStairs J N r = true) : ∃ j, MT J N j ∧ r = nI j := by
  have := hms.2.2.2.2
  unfold m_isStairs at h
  rw [Bool.and_eq_true, hms.2.2.2.1] at h
  obtain ⟨j, hj, rfl⟩ := m_isIn_lt (by omega) h.1
  rw [n_cl (by omega)] at h
  exact ⟨j, ⟨hj, of_decide_eq_true h.2⟩, rfl⟩
theorem RD.mk {J N : Nat → Nat → Int32} {r : Int32} {A : Nat → Prop} {B : Prop} (hms : MS J) (h1 : ∀ j, MR J N j → r = nI j → A j) (h2 : m_isRoom J N r = false → B) : RD J N r A B := by
  cases h : m_isRoom J N r with
  | false => exact Or.inr ⟨h, h2 h⟩
  | true => obtain ⟨j, q, e⟩ := m_isRoom_f hms h; exact Or.inl ⟨j, q, e, h1 j q e⟩
theorem DRD.mk {J N : Nat → Nat → Int32} {r : Int32} {A : Nat → Prop} {B : Prop} (hms : MS J) (h1 : ∀ j, MD J N j → r = nI j → A j) (h2 : m_isDoor J N r = false → B) : DRD J N r A B := by
  cases h : m_isDoor J N r with
  | false => exact Or.inr ⟨h, h2 h⟩
  | true => obtain ⟨j, q, e⟩ := m_isDoor_f hms h; exact Or.inl ⟨j, q, e, h1 j q e⟩
theorem TRD.mk {J N : Nat → Nat → Int32} {r : Int32} {A : Nat → Prop} {B : Prop} (hms : MS J) (h1 : ∀ j, MT J N j → r = nI j → A j) (h2 : m_isStairs J N r = false → B) : TRD J N r A B := by
  cases h : m_isStairs J N r with
  | false => exact Or.inr ⟨h, h2 h⟩
  | true => obtain ⟨j, q, e⟩ := m_isStairs_f hms h; exact Or.inl ⟨j, q, e, h1 j q e⟩
theorem m_isRoom_thr (J N : Nat → Nat → Int32) (t r : Int32) : m_isRoom (zk_uj J 22 0 t) N r = m_isRoom J N r := rfl
theorem m_isDoor_thr (J N : Nat → Nat → Int32) (t r : Int32) : m_isDoor (zk_uj J 22 0 t) N r = m_isDoor J N r := rfl
theorem m_isStairs_thr (J N : Nat → Nat → Int32) (t r : Int32) : m_isStairs (zk_uj J 22 0 t) N r = m_isStairs J N r := rfl
theorem MS.thr {J : Nat → Nat → Int32} (h : MS J) (t : Int32) : MS (zk_uj J 22 0 t) := h
theorem MI.thr {J N : Nat → Nat → Int32} (h : MI J N) (t : Int32) : MI (zk_uj J 22 0 t) N := h
/-- the answers -/
def a_isLost (J N : Nat → Nat → Int32) (j : Nat) : Bool := decide (lea J N j = 100)
def g_cor (J N : Nat → Nat → Int32) (j c : Nat) : Nat := g_least J N (LL J N) (nI j) (-1) (2 * ((N 24 j).toNatClampNeg + c % 2 * (N 26 j).toNatClampNeg)) (2 * ((N 25 j).toNatClampNeg + c / 2 * (N 27 j).toNatClampNeg))
def g_far (J N : Nat → Nat → Int32) (j : Nat) : Nat → Nat
  | 0 => 0
  | c + 1 => max (g_far J N j c) (g_cor J N j c)
def a_far (J N : Nat → Nat → Int32) (j : Nat) : Int32 := if lea J N j = 100 then -1 else nI (g_far J N j 4)
def a_leav (J N : Nat → Nat → Int32) (j : Nat) : Int32 := if lea J N j = 100 then -1 else if lea J N j / 2 < 40 then nI (lea J N j / 2) else nI (60 + lea J N j / 2)
def a_mid (J N : Nat → Nat → Int32) (j : Nat) : Int32 := if lea J N j = 100 then -1 else nI (BB J N j).1
def a_way (J N : Nat → Nat → Int32) (e : Nat) : Int32 := if m_from J N e = -2 ∨ LL J N e = INF then -1 else nI (LL J N e)
theorem ES.a1 {J J2 N N2 : Nat → Nat → Int32} (h : ES J J2 N N2) : a_isLost J2 N2 = a_isLost J N := by funext j; unfold a_isLost; rw [h.lea]
theorem ES.cor {J J2 N N2 : Nat → Nat → Int32} (h : ES J J2 N N2) (j c : Nat) : g_cor J2 N2 j c = g_cor J N j c := by
  unfold g_cor; rw [h.least, h.ll, h.n (o := 24) (by decide), h.n (o := 25) (by decide), h.n (o := 26) (by decide), h.n (o := 27) (by decide)]
theorem ES.far {J J2 N N2 : Nat → Nat → Int32} (h : ES J J2 N N2) (j : Nat) : ∀ c, g_far J2 N2 j c = g_far J N j c
  | 0 => rfl
  | c + 1 => by rw [g_far, g_far, h.far j c, h.cor]
theorem ES.a2 {J J2 N N2 : Nat → Nat → Int32} (h : ES J J2 N N2) : a_far J2 N2 = a_far J N := by funext j; unfold a_far; rw [h.lea, h.far]
theorem ES.a3 {J J2 N N2 : Nat → Nat → Int32} (h : ES J J2 N N2) : a_leav J2 N2 = a_leav J N := by funext j; unfold a_leav; rw [h.lea]
theorem ES.a4 {J J2 N N2 : Nat → Nat → Int32} (h : ES J J2 N N2) : a_mid J2 N2 = a_mid J N := by funext j; unfold a_mid; rw [h.lea, h.bb]
theorem ES.a5 {J J2 N N2 : Nat → Nat → Int32} (h : ES J J2 N N2) : a_way J2 N2 = a_way J N := by funext e; unfold a_way; rw [h.from, h.ll]
def sp_X11_isLostNow (E : zk_E) : zk_Sp zk_S := fun av σ sz P PX => match av with
  | [.ref a, .int r] => a = zk_ad E 22 ∧ MS σ.1 ∧ SV σ.1 σ.2.1 ∧ (∃ j, j < m_nr σ.1 ∧ r = nI j) ∧ P (some (.int (zk_b (a_isLost σ.1 σ.2.1 r.toNatClampNeg)))) σ sz
  | _ => False
theorem spe_X11_isLostNow (E : zk_E) (a : Nat) (r : Int32) (σ : zk_S) (sz : Nat) (P : zk_P zk_S) (PX : zk_X zk_S) : sp_X11_isLostNow E [.ref a, .int r] σ sz P PX = (a = zk_ad E 22 ∧ MS σ.1 ∧ SV σ.1 σ.2.1 ∧ (∃ j, j < m_nr σ.1 ∧ r = nI j) ∧ P (some (.int (zk_b (a_isLost σ.1 σ.2.1 r.toNatClampNeg)))) σ sz) := propext Iff.rfl
def C_X11_isLostNow (E : zk_E) : zk_Cl zk_S := zk_lka []
theorem r_X11_isLostNow (E : zk_E) (P : zk_P zk_S) (PX : zk_X zk_S) (K : Nat → zk_L → List Value → zk_W zk_S → Prop) : (∀ (n : Nat) (l1 : Option Value) (y0 : Value) (r : List Value) (σ : zk_S) (sz k c : Nat), zk_run E (zk_VT E) M_X11_isLostNow (C_X11_isLostNow E) P PX K (n + 1) 0 [some y0, l1] r (σ, sz, k, c) = (zk_isr y0 ∧ zk_run E (zk_VT E) M_X11_isLostNow (C_X11_isLostNow E) P PX K n 1 [some y0, l1] (y0 :: r) (σ, sz, k, c))) ∧
  (∀ (n : Nat) (l0 l1 : Option Value) (a : Nat) (r : List Value) (σ : zk_S) (sz k c : Nat), zk_run E (zk_VT E) M_X11_isLostNow (C_X11_isLostNow E) P PX K (n + 1) 1 [l0, l1] (.ref a :: r) (σ, sz, k, c) = zk_fld (zk_view E σ a) [10] 30 (fun v => zk_run E (zk_VT E) M_X11_isLostNow (C_X11_isLostNow E) P PX K n 4 [l0, l1] (v :: r) (σ, sz, k, c))) ∧
  (∀ (n : Nat) (l0 : Option Value) (y1 : Int32) (r : List Value) (σ : zk_S) (sz k c : Nat), zk_run E (zk_VT E) M_X11_isLostNow (C_X11_isLostNow E) P PX K (n + 1) 4 [l0, some (.int y1)] r (σ, sz, k, c) = zk_run E (zk_VT E) M_X11_isLostNow (C_X11_isLostNow E) P PX K n 5 [l0, some (.int y1)] (.int y1 :: r) (σ, sz, k, c)) ∧
  (∀ (n : Nat) (l0 l1 : Option Value) (a : Nat) (i : Int32) (r : List Value) (σ : zk_S) (sz k c : Nat), zk_run E (zk_VT E) M_X11_isLostNow (C_X11_isLostNow E) P PX K (n + 1) 5 [l0, l1] (.int i :: .ref a :: r) (σ, sz, k, c) = zk_ild (zk_view E σ a) (zk_ar E 0) i (fun x => zk_run E (zk_VT E) M_X11_isLostNow (C_X11_isLostNow E) P PX K n 6 [l0, l1] (.int x :: r) (σ, sz, k, c))) ∧
  (∀ (n : Nat) (l0 l1 : Option Value)  (r : List Value) (σ : zk_S) (sz k c : Nat), zk_run E (zk_VT E) M_X11_isLostNow (C_X11_isLostNow E) P PX K (n + 1) 6 [l0, l1] r (σ, sz, k, c) = zk_run E (zk_VT E) M_X11_isLostNow (C_X11_isLostNow E) P PX K n 7 [l0, l1] (.int ((-1)) :: r) (σ, sz, k, c)) ∧
  (∀ (n : Nat) (l0 l1 : Option Value) (x y : Int32) (r : List Value) (σ : zk_S) (sz k c : Nat), zk_run E (zk_VT E) M_X11_isLostNow (C_X11_isLostNow E) P PX K (n + 1) 7 [l0, l1] (.int y :: .int x :: r) (σ, sz, k, c) = ((¬ x = y → zk_run E (zk_VT E) M_X11_isLostNow (C_X11_isLostNow E) P PX K n 14 [l0, l1] r (σ, sz, k, c)) ∧ (¬ (¬ x = y) → zk_run E (zk_VT E) M_X11_isLostNow (C_X11_isLostNow E) P PX K n 10 [l0, l1] r (σ, sz, k, c)))) ∧
  (∀ (n : Nat) (l0 l1 : Option Value)  (r : List Value) (σ : zk_S) (sz k c : Nat), zk_run E (zk_VT E) M_X11_isLostNow (C_X11_isLostNow E) P PX K (n + 1) 10 [l0, l1] r (σ, sz, k, c) = zk_run E (zk_VT E) M_X11_isLostNow (C_X11_isLostNow E) P PX K n 11 [l0, l1] (.int (1) :: r) (σ, sz, k, c)) ∧
  (∀ (n : Nat) (l0 l1 : Option Value)  (r : List Value) (σ : zk_S) (sz k c : Nat), zk_run E (zk_VT E) M_X11_isLostNow (C_X11_isLostNow E) P PX K (n + 1) 11 [l0, l1] r (σ, sz, k, c) = zk_run E (zk_VT E) M_X11_isLostNow (C_X11_isLostNow E) P PX K n 15 [l0, l1] r (σ, sz, k, c)) ∧
  (∀ (n : Nat) (l0 l1 : Option Value)  (r : List Value) (σ : zk_S) (sz k c : Nat), zk_run E (zk_VT E) M_X11_isLostNow (C_X11_isLostNow E) P PX K (n + 1) 14 [l0, l1] r (σ, sz, k, c) = zk_run E (zk_VT E) M_X11_isLostNow (C_X11_isLostNow E) P PX K n 15 [l0, l1] (.int (0) :: r) (σ, sz, k, c)) ∧
  (∀ (n : Nat) (l0 l1 : Option Value) (x : Int32)  (σ : zk_S) (sz k c : Nat), zk_run E (zk_VT E) M_X11_isLostNow (C_X11_isLostNow E) P PX K (n + 1) 15 [l0, l1] [.int x] (σ, sz, k, c) = (zk_nok (some (.boolean)) x ∧ P (some (.int x)) σ sz ∧ k ≤ 0 ∧ c ≤ 0)) ∧
  (∀ (n : Nat) (l0 l1 : Option Value) (r : List Value) (w : zk_W zk_S), zk_go E (zk_VT E) M_X11_isLostNow (C_X11_isLostNow E) P PX K n 0 [l0, l1] r w = zk_run E (zk_VT E) M_X11_isLostNow (C_X11_isLostNow E) P PX K (n + 1) 0 [l0, l1] r w) := ⟨by intros; rfl, by intros; rfl, by intros; rfl, by intros; rfl, by intros; rfl, by intros; rfl, by intros; rfl, by intros; rfl, by intros; rfl, by intros; rfl, by intros; rfl⟩
theorem vc_X11_isLostNow (E : zk_E) : zk_VC E (zk_VT E) M_X11_isLostNow (C_X11_isLostNow E) 2 (sp_X11_isLostNow E) := by
  intro av σ sz P PX h
  obtain ⟨J, N, Q, O, U⟩ := σ
  unfold sp_X11_isLostNow at h
  split at h
  case h_2 => exact h.elim
  rename_i a0 r
  obtain ⟨rfl, h⟩ := h
  refine ⟨Nat.le_of_ble_eq_true rfl, fun G hG => ?_⟩
  change G 0 [some (.ref (zk_ad E 22)), some (.int r)] [] ((J, N, Q, O, U), sz, 0, 0)
  try dsimp only at h
  obtain ⟨hms, hsv, ⟨j, hj, rfl⟩, h⟩ := h
  have hj20 : j < 20 := Nat.lt_of_lt_of_le hj hms.1.2
  have hin : vp_in (nI j) 20 := n_in hj20 (by decide)
  have hcl : (nI j).toNatClampNeg = j := n_cl (by omega)
  rw [hcl] at h
  have h48 := (hsv.2.2 j hj).1
  unfold a_isLost at h
  have hl := lea_le J N j
  by_cases q : lea J N j = 100
  · rw [decide_eq_true q] at h
    rw [q, show g_lv 100 = -1 from rfl] at h48
    (refine hG 900 _ _ _ _ ?_; simp only [r_X11_isLostNow, zk_kl_none, zk_kl_int, zk_kl_ref, zk_kl_null, zk_kl_long, zk_kl_rf, zk_isr_ref, zk_isr_null, zk_isr_rf9, zk_c1_int, zk_c1_ref, zk_c1_null, zk_c1_rf, zk_psh_some, zk_psh_none, zk_nok_int, zk_nok_bool0, zk_nok_bool1, zk_nok_b, zk_fok_0, zk_fok_1, zk_fok_2, zk_fok_n, zk_fok_rf, zb_f, zb_p, zb_i, zb_a, zb_s, zk_nth_0, zk_nth_s, zk_fld_o, zk_put_o, zk_rv_eq, zk_ri_eq, zk_is_o, List.mem_cons, List.not_mem_nil, or_false, false_or, or_true, true_or, and_true, true_and, not_false_iff, not_true_eq_false, true_implies, false_implies, imp_self, implies_true, forall_const, zk_lit, zk_uj_ap, zk_un_ap, zk_un_un, zk_uj_uj, Nat.reduceEqDiff, eq_self, zk_bq, Bool.true_or, Bool.false_or, Nat.le_refl, Nat.zero_add, Nat.add_zero, Nat.reduceAdd, Nat.reduceLeDiff, Nat.le_zero_eq, and_self, and_false, false_and, ite_true, ite_false, Nat.zero_le, List.length_cons, List.length_nil, Option.some.injEq, forall_eq', reduceCtorEq, hin, hcl, h48])
    exact h
  · rw [decide_eq_false q] at h
    rw [show g_lv (lea J N j) = nI (lea J N j) from if_neg q] at h48
    have c1 := nI_ne1 (r := lea J N j) (by omega)
    (refine hG 900 _ _ _ _ ?_; simp only [r_X11_isLostNow, zk_kl_none, zk_kl_int, zk_kl_ref, zk_kl_null, zk_kl_long, zk_kl_rf, zk_isr_ref, zk_isr_null, zk_isr_rf9, zk_c1_int, zk_c1_ref, zk_c1_null, zk_c1_rf, zk_psh_some, zk_psh_none, zk_nok_int, zk_nok_bool0, zk_nok_bool1, zk_nok_b, zk_fok_0, zk_fok_1, zk_fok_2, zk_fok_n, zk_fok_rf, zb_f, zb_p, zb_i, zb_a, zb_s, zk_nth_0, zk_nth_s, zk_fld_o, zk_put_o, zk_rv_eq, zk_ri_eq, zk_is_o, List.mem_cons, List.not_mem_nil, or_false, false_or, or_true, true_or, and_true, true_and, not_false_iff, not_true_eq_false, true_implies, false_implies, imp_self, implies_true, forall_const, zk_lit, zk_uj_ap, zk_un_ap, zk_un_un, zk_uj_uj, Nat.reduceEqDiff, eq_self, zk_bq, Bool.true_or, Bool.false_or, Nat.le_refl, Nat.zero_add, Nat.add_zero, Nat.reduceAdd, Nat.reduceLeDiff, Nat.le_zero_eq, and_self, and_false, false_and, ite_true, ite_false, Nat.zero_le, List.length_cons, List.length_nil, Option.some.injEq, forall_eq', reduceCtorEq, hin, hcl, h48, c1])
    exact h
theorem ct_X11_isLostNow {l : Launch} (hl : l.stackTraces = false) (E : zk_E) : zk_C l E (zk_VT E) yX11_isLostNow cX11_isLostNow 2 (some (.boolean)) rm_X11_isLostNow (sp_X11_isLostNow E) := by
  refine zk_meth (M := M_X11_isLostNow) (C := C_X11_isLostNow E) hl (by decide +kernel) rfl (fun _ _ => rfl) (zk_VT_ok E) MO_X11_isLostNow TO_X11_isLostNow THo_X11_isLostNow ?_ (vc_X11_isLostNow E)
  exact fun p e s m args below meth c X pc n mc ms sp2 h => absurd (zk_lka_mem h) List.not_mem_nil
def sp_X11_isLost (E : zk_E) : zk_Sp zk_S := fun av σ sz P PX => match av with
  | [.ref a, .int r] => a = zk_ad E 22 ∧ MI σ.1 σ.2.1 ∧ RD σ.1 σ.2.1 r (fun j => ∀ J2 N2, QE σ.1 J2 σ.2.1 N2 0 → P (some (.int (zk_b (a_isLost σ.1 σ.2.1 j)))) (J2, N2, σ.2.2) sz) (∀ J2 N2, QE σ.1 J2 σ.2.1 N2 1 → P (some (.int 0)) (J2, N2, σ.2.2) sz)
  | _ => False
theorem spe_X11_isLost (E : zk_E) (a : Nat) (r : Int32) (σ : zk_S) (sz : Nat) (P : zk_P zk_S) (PX : zk_X zk_S) : sp_X11_isLost E [.ref a, .int r] σ sz P PX = (a = zk_ad E 22 ∧ MI σ.1 σ.2.1 ∧ RD σ.1 σ.2.1 r (fun j => ∀ J2 N2, QE σ.1 J2 σ.2.1 N2 0 → P (some (.int (zk_b (a_isLost σ.1 σ.2.1 j)))) (J2, N2, σ.2.2) sz) (∀ J2 N2, QE σ.1 J2 σ.2.1 N2 1 → P (some (.int 0)) (J2, N2, σ.2.2) sz)) := propext Iff.rfl
def C_X11_isLost (E : zk_E) : zk_Cl zk_S := zk_lka [(7, 2, 0, 0, zk_rv (zk_VT E) (fun ci => Nat.beq ci 10) (sp_X11_isRoom E)), (15, 2, 0, 0, zk_rv (zk_VT E) (fun ci => Nat.beq ci 10) (sp_X11_isNot E)), (20, 1, 0, 0, zk_rv (zk_VT E) (fun ci => Nat.beq ci 10) (sp_X11_solve E)), (25, 2, 0, 0, zk_rv (zk_VT E) (fun ci => Nat.beq ci 10) (sp_X11_isLostNow E))]
theorem r_X11_isLost (E : zk_E) (P : zk_P zk_S) (PX : zk_X zk_S) (K : Nat → zk_L → List Value → zk_W zk_S → Prop) : (∀ (n : Nat) (l1 : Option Value) (y0 : Value) (r : List Value) (σ : zk_S) (sz k c : Nat), zk_run E (zk_VT E) M_X11_isLost (C_X11_isLost E) P PX K (n + 1) 0 [some y0, l1] r (σ, sz, k, c) = (zk_isr y0 ∧ zk_run E (zk_VT E) M_X11_isLost (C_X11_isLost E) P PX K n 1 [some y0, l1] (y0 :: r) (σ, sz, k, c))) ∧
  (∀ (n : Nat) (l0 l1 : Option Value)  (r : List Value) (σ : zk_S) (sz k c : Nat), zk_run E (zk_VT E) M_X11_isLost (C_X11_isLost E) P PX K (n + 1) 1 [l0, l1] r (σ, sz, k, c) = zk_run E (zk_VT E) M_X11_isLost (C_X11_isLost E) P PX K n 2 [l0, l1] (.int (0) :: r) (σ, sz, k, c)) ∧
  (∀ (n : Nat) (l0 l1 : Option Value) (a : Nat) (v : Value) (r : List Value) (σ : zk_S) (sz k c : Nat), zk_run E (zk_VT E) M_X11_isLost (C_X11_isLost E) P PX K (n + 1) 2 [l0, l1] (v :: .ref a :: r) (σ, sz, k, c) = zk_put (zk_view E σ a) [10] 0 0 v (zk_pfok E σ a 0 v ∧ zk_run E (zk_VT E) M_X11_isLost (C_X11_isLost E) P PX K n 5 [l0, l1] r (zk_pf E σ a 0 v, sz, k, c))) ∧
  (∀ (n : Nat) (l1 : Option Value) (y0 : Value) (r : List Value) (σ : zk_S) (sz k c : Nat), zk_run E (zk_VT E) M_X11_isLost (C_X11_isLost E) P PX K (n + 1) 5 [some y0, l1] r (σ, sz, k, c) = (zk_isr y0 ∧ zk_run E (zk_VT E) M_X11_isLost (C_X11_isLost E) P PX K n 6 [some y0, l1] (y0 :: r) (σ, sz, k, c))) ∧
  (∀ (n : Nat) (l0 : Option Value) (y1 : Int32) (r : List Value) (σ : zk_S) (sz k c : Nat), zk_run E (zk_VT E) M_X11_isLost (C_X11_isLost E) P PX K (n + 1) 6 [l0, some (.int y1)] r (σ, sz, k, c) = zk_run E (zk_VT E) M_X11_isLost (C_X11_isLost E) P PX K n 7 [l0, some (.int y1)] (.int y1 :: r) (σ, sz, k, c)) ∧
  (∀ (n : Nat) (l0 l1 : Option Value) (v0 : Value) (v1 : Value)  (σ : zk_S) (sz k c : Nat), zk_run E (zk_VT E) M_X11_isLost (C_X11_isLost E) P PX K (n + 1) 7 [l0, l1] [v0, v1] (σ, sz, k, c) = (k + 0 ≤ 0 ∧ c + 0 ≤ 0 ∧ (zk_rv (zk_VT E) (fun ci => Nat.beq ci 10) (sp_X11_isRoom E)) [v1, v0] σ sz (fun v s2 z2 => zk_run E (zk_VT E) M_X11_isLost (C_X11_isLost E) P PX K n 10 [l0, l1] (zk_psh v []) (s2, z2, k + 0, c + 0)) (fun X s2 z2 => PX X s2 z2))) ∧
  (∀ (n : Nat) (l0 l1 : Option Value) (x : Int32) (r : List Value) (σ : zk_S) (sz k c : Nat), zk_run E (zk_VT E) M_X11_isLost (C_X11_isLost E) P PX K (n + 1) 10 [l0, l1] (.int x :: r) (σ, sz, k, c) = ((¬ x = 0 → zk_run E (zk_VT E) M_X11_isLost (C_X11_isLost E) P PX K n 19 [l0, l1] r (σ, sz, k, c)) ∧ (¬ (¬ x = 0) → zk_run E (zk_VT E) M_X11_isLost (C_X11_isLost E) P PX K n 13 [l0, l1] r (σ, sz, k, c)))) ∧
  (∀ (n : Nat) (l1 : Option Value) (y0 : Value) (r : List Value) (σ : zk_S) (sz k c : Nat), zk_run E (zk_VT E) M_X11_isLost (C_X11_isLost E) P PX K (n + 1) 13 [some y0, l1] r (σ, sz, k, c) = (zk_isr y0 ∧ zk_run E (zk_VT E) M_X11_isLost (C_X11_isLost E) P PX K n 14 [some y0, l1] (y0 :: r) (σ, sz, k, c))) ∧
  (∀ (n : Nat) (l0 l1 : Option Value)  (r : List Value) (σ : zk_S) (sz k c : Nat), zk_run E (zk_VT E) M_X11_isLost (C_X11_isLost E) P PX K (n + 1) 14 [l0, l1] r (σ, sz, k, c) = zk_run E (zk_VT E) M_X11_isLost (C_X11_isLost E) P PX K n 15 [l0, l1] (.int (1) :: r) (σ, sz, k, c)) ∧
  (∀ (n : Nat) (l0 l1 : Option Value) (v0 : Value) (v1 : Value)  (σ : zk_S) (sz k c : Nat), zk_run E (zk_VT E) M_X11_isLost (C_X11_isLost E) P PX K (n + 1) 15 [l0, l1] [v0, v1] (σ, sz, k, c) = (k + 0 ≤ 0 ∧ c + 0 ≤ 0 ∧ (zk_rv (zk_VT E) (fun ci => Nat.beq ci 10) (sp_X11_isNot E)) [v1, v0] σ sz (fun v s2 z2 => zk_run E (zk_VT E) M_X11_isLost (C_X11_isLost E) P PX K n 18 [l0, l1] (zk_psh v []) (s2, z2, k + 0, c + 0)) (fun X s2 z2 => PX X s2 z2))) ∧
  (∀ (n : Nat) (l0 l1 : Option Value) (x : Int32)  (σ : zk_S) (sz k c : Nat), zk_run E (zk_VT E) M_X11_isLost (C_X11_isLost E) P PX K (n + 1) 18 [l0, l1] [.int x] (σ, sz, k, c) = (zk_nok (some (.boolean)) x ∧ P (some (.int x)) σ sz ∧ k ≤ 0 ∧ c ≤ 0)) ∧
  (∀ (n : Nat) (l1 : Option Value) (y0 : Value) (r : List Value) (σ : zk_S) (sz k c : Nat), zk_run E (zk_VT E) M_X11_isLost (C_X11_isLost E) P PX K (n + 1) 19 [some y0, l1] r (σ, sz, k, c) = (zk_isr y0 ∧ zk_run E (zk_VT E) M_X11_isLost (C_X11_isLost E) P PX K n 20 [some y0, l1] (y0 :: r) (σ, sz, k, c))) ∧
  (∀ (n : Nat) (l0 l1 : Option Value) (v0 : Value)  (σ : zk_S) (sz k c : Nat), zk_run E (zk_VT E) M_X11_isLost (C_X11_isLost E) P PX K (n + 1) 20 [l0, l1] [v0] (σ, sz, k, c) = (k + 0 ≤ 0 ∧ c + 0 ≤ 0 ∧ (zk_rv (zk_VT E) (fun ci => Nat.beq ci 10) (sp_X11_solve E)) [v0] σ sz (fun v s2 z2 => zk_run E (zk_VT E) M_X11_isLost (C_X11_isLost E) P PX K n 23 [l0, l1] (zk_psh v []) (s2, z2, k + 0, c + 0)) (fun X s2 z2 => PX X s2 z2))) ∧
  (∀ (n : Nat) (l1 : Option Value) (y0 : Value) (r : List Value) (σ : zk_S) (sz k c : Nat), zk_run E (zk_VT E) M_X11_isLost (C_X11_isLost E) P PX K (n + 1) 23 [some y0, l1] r (σ, sz, k, c) = (zk_isr y0 ∧ zk_run E (zk_VT E) M_X11_isLost (C_X11_isLost E) P PX K n 24 [some y0, l1] (y0 :: r) (σ, sz, k, c))) ∧
  (∀ (n : Nat) (l0 : Option Value) (y1 : Int32) (r : List Value) (σ : zk_S) (sz k c : Nat), zk_run E (zk_VT E) M_X11_isLost (C_X11_isLost E) P PX K (n + 1) 24 [l0, some (.int y1)] r (σ, sz, k, c) = zk_run E (zk_VT E) M_X11_isLost (C_X11_isLost E) P PX K n 25 [l0, some (.int y1)] (.int y1 :: r) (σ, sz, k, c)) ∧
  (∀ (n : Nat) (l0 l1 : Option Value) (v0 : Value) (v1 : Value)  (σ : zk_S) (sz k c : Nat), zk_run E (zk_VT E) M_X11_isLost (C_X11_isLost E) P PX K (n + 1) 25 [l0, l1] [v0, v1] (σ, sz, k, c) = (k + 0 ≤ 0 ∧ c + 0 ≤ 0 ∧ (zk_rv (zk_VT E) (fun ci => Nat.beq ci 10) (sp_X11_isLostNow E)) [v1, v0] σ sz (fun v s2 z2 => zk_run E (zk_VT E) M_X11_isLost (C_X11_isLost E) P PX K n 28 [l0, l1] (zk_psh v []) (s2, z2, k + 0, c + 0)) (fun X s2 z2 => PX X s2 z2))) ∧
  (∀ (n : Nat) (l0 l1 : Option Value) (x : Int32)  (σ : zk_S) (sz k c : Nat), zk_run E (zk_VT E) M_X11_isLost (C_X11_isLost E) P PX K (n + 1) 28 [l0, l1] [.int x] (σ, sz, k, c) = (zk_nok (some (.boolean)) x ∧ P (some (.int x)) σ sz ∧ k ≤ 0 ∧ c ≤ 0)) ∧
  (∀ (n : Nat) (l0 l1 : Option Value) (r : List Value) (w : zk_W zk_S), zk_go E (zk_VT E) M_X11_isLost (C_X11_isLost E) P PX K n 0 [l0, l1] r w = zk_run E (zk_VT E) M_X11_isLost (C_X11_isLost E) P PX K (n + 1) 0 [l0, l1] r w) := ⟨by intros; rfl, by intros; rfl, by intros; rfl, by intros; rfl, by intros; rfl, by intros; rfl, by intros; rfl, by intros; rfl, by intros; rfl, by intros; rfl, by intros; rfl, by intros; rfl, by intros; rfl, by intros; rfl, by intros; rfl, by intros; rfl, by intros; rfl, by intros; rfl⟩
theorem vc_X11_isLost (E : zk_E) : zk_VC E (zk_VT E) M_X11_isLost (C_X11_isLost E) 2 (sp_X11_isLost E) := by
  intro av σ sz P PX h
  obtain ⟨J, N, Q, O, U⟩ := σ
  unfold sp_X11_isLost at h
  split at h
  case h_2 => exact h.elim
  rename_i a0 r
  obtain ⟨rfl, h⟩ := h
  refine ⟨Nat.le_of_ble_eq_true rfl, fun G hG => ?_⟩
  change G 0 [some (.ref (zk_ad E 22)), some (.int r)] [] ((J, N, Q, O, U), sz, 0, 0)
  try dsimp only at h
  obtain ⟨hmi, h⟩ := h
  have hms := hmi.1
  have hms0 := hms.thr 0
  rcases h with ⟨j, hj, rfl, h⟩ | ⟨hr, h⟩
  · have c1 := m_isRoom_t hms hj
    (refine hG 900 _ _ _ _ ?_; simp only [r_X11_isLost, zk_kl_none, zk_kl_int, zk_kl_ref, zk_kl_null, zk_kl_long, zk_kl_rf, zk_isr_ref, zk_isr_null, zk_isr_rf9, zk_c1_int, zk_c1_ref, zk_c1_null, zk_c1_rf, zk_psh_some, zk_psh_none, zk_nok_int, zk_nok_bool0, zk_nok_bool1, zk_nok_b, zk_fok_0, zk_fok_1, zk_fok_2, zk_fok_n, zk_fok_rf, zb_f, zb_p, zb_i, zb_a, zb_s, zk_nth_0, zk_nth_s, zk_fld_o, zk_put_o, zk_rv_eq, zk_ri_eq, zk_is_o, List.mem_cons, List.not_mem_nil, or_false, false_or, or_true, true_or, and_true, true_and, not_false_iff, not_true_eq_false, true_implies, false_implies, imp_self, implies_true, forall_const, zk_lit, zk_uj_ap, zk_un_ap, zk_un_un, zk_uj_uj, Nat.reduceEqDiff, eq_self, zk_bq, Bool.true_or, Bool.false_or, Nat.le_refl, Nat.zero_add, Nat.add_zero, Nat.reduceAdd, Nat.reduceLeDiff, Nat.le_zero_eq, and_self, and_false, false_and, ite_true, ite_false, Nat.zero_le, List.length_cons, List.length_nil, Option.some.injEq, forall_eq', reduceCtorEq, spe_X11_isRoom, hms0, m_isRoom_thr, c1, zk_b0, Bool.true_eq_false, spe_X11_solve])
    refine ⟨hmi.thr 0, fun J2 N2 hso => ?_⟩
    have qe := (QE.thr J N 0).so hso
    simp only [r_X11_isLost, zk_kl_none, zk_kl_int, zk_kl_ref, zk_kl_null, zk_kl_long, zk_kl_rf, zk_isr_ref, zk_isr_null, zk_isr_rf9, zk_c1_int, zk_c1_ref, zk_c1_null, zk_c1_rf, zk_psh_some, zk_psh_none, zk_nok_int, zk_nok_bool0, zk_nok_bool1, zk_nok_b, zk_fok_0, zk_fok_1, zk_fok_2, zk_fok_n, zk_fok_rf, zb_f, zb_p, zb_i, zb_a, zb_s, zk_nth_0, zk_nth_s, zk_fld_o, zk_put_o, zk_rv_eq, zk_ri_eq, zk_is_o, List.mem_cons, List.not_mem_nil, or_false, false_or, or_true, true_or, and_true, true_and, not_false_iff, not_true_eq_false, true_implies, false_implies, imp_self, implies_true, forall_const, zk_lit, zk_uj_ap, zk_un_ap, zk_un_un, zk_uj_uj, Nat.reduceEqDiff, eq_self, zk_bq, Bool.true_or, Bool.false_or, Nat.le_refl, Nat.zero_add, Nat.add_zero, Nat.reduceAdd, Nat.reduceLeDiff, Nat.le_zero_eq, and_self, and_false, false_and, ite_true, ite_false, Nat.zero_le, List.length_cons, List.length_nil, Option.some.injEq, forall_eq', reduceCtorEq, spe_X11_isLostNow]
    refine ⟨qe.es.ms hms, hso.sv, ⟨j, by rw [qe.es.nr]; exact hj.1, rfl⟩, ?_⟩
    rw [n_cl (by have := hj.lt hmi; omega), qe.es.a1]
    exact h J2 N2 qe
  · (refine hG 900 _ _ _ _ ?_; simp only [r_X11_isLost, zk_kl_none, zk_kl_int, zk_kl_ref, zk_kl_null, zk_kl_long, zk_kl_rf, zk_isr_ref, zk_isr_null, zk_isr_rf9, zk_c1_int, zk_c1_ref, zk_c1_null, zk_c1_rf, zk_psh_some, zk_psh_none, zk_nok_int, zk_nok_bool0, zk_nok_bool1, zk_nok_b, zk_fok_0, zk_fok_1, zk_fok_2, zk_fok_n, zk_fok_rf, zb_f, zb_p, zb_i, zb_a, zb_s, zk_nth_0, zk_nth_s, zk_fld_o, zk_put_o, zk_rv_eq, zk_ri_eq, zk_is_o, List.mem_cons, List.not_mem_nil, or_false, false_or, or_true, true_or, and_true, true_and, not_false_iff, not_true_eq_false, true_implies, false_implies, imp_self, implies_true, forall_const, zk_lit, zk_uj_ap, zk_un_ap, zk_un_un, zk_uj_uj, Nat.reduceEqDiff, eq_self, zk_bq, Bool.true_or, Bool.false_or, Nat.le_refl, Nat.zero_add, Nat.add_zero, Nat.reduceAdd, Nat.reduceLeDiff, Nat.le_zero_eq, and_self, and_false, false_and, ite_true, ite_false, Nat.zero_le, List.length_cons, List.length_nil, Option.some.injEq, forall_eq', reduceCtorEq, spe_X11_isRoom, hms0, m_isRoom_thr, hr, zk_b0, spe_X11_isNot])
    exact h _ _ (QE.thr J N 1)
theorem ct_X11_isLost {l : Launch} (hl : l.stackTraces = false) (E : zk_E) : zk_C l E (zk_VT E) yX11_isLost cX11_isLost 2 (some (.boolean)) rm_X11_isLost (sp_X11_isLost E) := by
  refine zk_meth (M := M_X11_isLost) (C := C_X11_isLost E) hl (by decide +kernel) rfl (fun _ _ => rfl) (zk_VT_ok E) MO_X11_isLost TO_X11_isLost THo_X11_isLost ?_ (vc_X11_isLost E)
  exact fun p e s m args below meth c X pc n mc ms sp2 h => by
    have h2 := zk_lka_mem h
    simp only [List.mem_cons, List.not_mem_nil, or_false, Prod.mk.injEq] at h2
    rcases h2 with ⟨rfl, rfl, rfl, rfl, rfl⟩ | ⟨rfl, rfl, rfl, rfl, rfl⟩ | ⟨rfl, rfl, rfl, rfl, rfl⟩ | ⟨rfl, rfl, rfl, rfl, rfl⟩
    · exact zk_coV (idx := 137) X (ct_X11_isRoom hl E) (List.forall_mem_cons.mpr ⟨zk_wi 1122 (by decide +kernel) rfl, List.forall_mem_cons.mpr ⟨zk_wi 1124 (by decide +kernel) rfl, List.forall_mem_cons.mpr ⟨zk_wp 13 (by decide +kernel) rfl, List.forall_mem_cons.mpr ⟨zk_wi 6 (by decide +kernel) rfl, List.forall_mem_cons.mpr ⟨zk_wi 1125 (by decide +kernel) rfl, fun _ h => absurd h List.not_mem_nil⟩⟩⟩⟩⟩) (fun ci h => by
      have h := Nat.eq_of_beq_eq_true h
      subst h
      exact ⟨_, _, rfl⟩) (by decide +kernel) ⟨by decide, by decide, by decide +kernel⟩ ⟨by decide, by decide⟩
    · exact zk_coV (idx := 170) X (ct_X11_isNot hl E) (List.forall_mem_cons.mpr ⟨zk_wi 1175 (by decide +kernel) rfl, List.forall_mem_cons.mpr ⟨zk_wi 1177 (by decide +kernel) rfl, List.forall_mem_cons.mpr ⟨zk_wp 19 (by decide +kernel) rfl, List.forall_mem_cons.mpr ⟨zk_wi 6 (by decide +kernel) rfl, List.forall_mem_cons.mpr ⟨zk_wi 1178 (by decide +kernel) rfl, fun _ h => absurd h List.not_mem_nil⟩⟩⟩⟩⟩) (fun ci h => by
      have h := Nat.eq_of_beq_eq_true h
      subst h
      exact ⟨_, _, rfl⟩) (by decide +kernel) ⟨by decide, by decide, by decide +kernel⟩ ⟨by decide, by decide⟩
    · exact zk_coV (idx := 227) X (ct_X11_solve hl E) (List.forall_mem_cons.mpr ⟨zk_wi 1227 (by decide +kernel) rfl, List.forall_mem_cons.mpr ⟨zk_wi 1229 (by decide +kernel) rfl, List.forall_mem_cons.mpr ⟨zk_wp 24 (by decide +kernel) rfl, List.forall_mem_cons.mpr ⟨zk_wi 6 (by decide +kernel) rfl, List.forall_mem_cons.mpr ⟨zk_wi 1230 (by decide +kernel) rfl, fun _ h => absurd h List.not_mem_nil⟩⟩⟩⟩⟩) (fun ci h => by
      have h := Nat.eq_of_beq_eq_true h
      subst h
      exact ⟨_, _, rfl⟩) (by decide +kernel) ⟨by decide, by decide, by decide +kernel⟩ ⟨by decide, by decide⟩
    · exact zk_coV (idx := 230) X (ct_X11_isLostNow hl E) (List.forall_mem_cons.mpr ⟨zk_wi 1273 (by decide +kernel) rfl, List.forall_mem_cons.mpr ⟨zk_wi 1275 (by decide +kernel) rfl, List.forall_mem_cons.mpr ⟨zk_wp 35 (by decide +kernel) rfl, List.forall_mem_cons.mpr ⟨zk_wi 6 (by decide +kernel) rfl, List.forall_mem_cons.mpr ⟨zk_wi 1276 (by decide +kernel) rfl, fun _ h => absurd h List.not_mem_nil⟩⟩⟩⟩⟩) (fun ci h => by
      have h := Nat.eq_of_beq_eq_true h
      subst h
      exact ⟨_, _, rfl⟩) (by decide +kernel) ⟨by decide, by decide, by decide +kernel⟩ ⟨by decide, by decide⟩

