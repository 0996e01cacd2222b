/-! the reference: behind, leftNow, left, inRoom, timeOut -/
theorem t_go_none {J N : Nat → Nat → Int32} {door : Int32} {w : Nat} {f : Nat → Nat} : ∀ {n}, t_any J N f n = false → ∀ r, r < n → t_go J N door w f r = 0
  | 0, _, r, h => absurd h (Nat.not_lt_zero r)
  | n + 1, h, r, hr => by
    rw [t_any, Bool.or_eq_false_iff] at h
    rcases Nat.lt_succ_iff_lt_or_eq.mp hr with q | q
    · exact t_go_none h.1 r q
    · subst q
      unfold t_go
      cases ho : t_out J N r with
      | false => rfl
      | true =>
        rw [ho, Bool.true_and] at h
        have := of_decide_eq_false h.2
        rw [if_pos rfl]
        omega
theorem t_mv_none {J N : Nat → Nat → Int32} {g f : Nat → Nat} : ∀ n, (∀ r, r < n → g r = 0) → t_mv J N g f n = f
  | 0, _ => rfl
  | n + 1, h => by rw [t_mv, if_pos (h n (Nat.lt_succ_self n)), t_mv_none n (fun r hr => h r (by omega))]
theorem t_tick_none {J N : Nat → Nat → Int32} {door : Int32} {w : Nat} {f : Nat → Nat} (h : t_any J N f (m_nr J) = false) : t_tick J N door w f = f := t_mv_none _ (t_go_none h)
def t_beh (J N : Nat → Nat → Int32) : Nat → (Nat → Nat) → Nat → Nat
  | 0, f => f
  | n + 1, f => t_beh J N n (t_tick J N (-1) 0 f)
theorem t_beh_none {J N : Nat → Nat → Int32} : ∀ n f, t_any J N f (m_nr J) = false → t_beh J N n f = f
  | 0, _, _ => rfl
  | n + 1, f, h => by rw [t_beh, t_tick_none h, t_beh_none n f h]
theorem ES.beh {J J2 N N2 : Nat → Nat → Int32} (h : ES J J2 N N2) : ∀ n f, t_beh J2 N2 n f = t_beh J N n f
  | 0, _ => rfl
  | n + 1, f => by rw [t_beh, t_beh, h.ttick, h.beh n]
theorem t_beh_sum {J N : Nat → Nat → Int32} (hmi : MI J N) : ∀ n f, sumN (t_beh J N n f) 20 ≤ sumN f 20
  | 0, _ => Nat.le_refl _
  | n + 1, f => Nat.le_trans (t_beh_sum hmi n _) (t_tick_sum hmi)
/-- nobody is where no room is -/
def OZ (J : Nat → Nat → Int32) (f : Nat → Nat) : Prop := ∀ k, m_nr J ≤ k → f k = 0
theorem t_mv_oz {J N : Nat → Nat → Int32} {door : Int32} {w : Nat} {f : Nat → Nat} (hmi : MI J N) (hf : OZ J f) : ∀ n, n ≤ m_nr J → OZ J (t_mv J N (t_go J N door w f) f n)
  | 0, _ => hf
  | n + 1, h => by
    have ih := t_mv_oz (door := door) (w := w) hmi hf n (by omega)
    rw [t_mv]
    split
    · exact ih
    · next q =>
      intro k hk
      have hx := (t_next hmi (by omega) (t_go_out q)).2
      unfold t_step
      rcases hx with hx | ⟨q, q1, q2, q3⟩
      · rw [if_pos hx, updN_ne _ _ (by omega)]; exact ih k hk
      · have := q1.lt hmi
        have := q1.1
        rw [q3, if_neg (nI_ne1 (by omega)), n_cl (by omega), updN_ne _ _ (by omega), updN_ne _ _ (by omega)]; exact ih k hk
theorem t_tick_oz {J N : Nat → Nat → Int32} {door : Int32} {w : Nat} {f : Nat → Nat} (hmi : MI J N) (hf : OZ J f) : OZ J (t_tick J N door w f) := t_mv_oz hmi hf _ (Nat.le_refl _)
theorem t_beh_oz {J N : Nat → Nat → Int32} (hmi : MI J N) : ∀ n f, OZ J f → OZ J (t_beh J N n f)
  | 0, _, h => h
  | n + 1, f, h => t_beh_oz hmi n _ (t_tick_oz hmi h)
theorem g_p_oz (J N : Nat → Nat → Int32) : OZ J (g_p J N) := fun k hk => by unfold g_p; rw [if_neg (by omega)]
theorem sumN_oz {J : Nat → Nat → Int32} {f : Nat → Nat} (h : OZ J f) : ∀ m, sumN f (m_nr J + m) = sumN f (m_nr J)
  | 0 => rfl
  | m + 1 => by rw [← Nat.add_assoc, sumN, sumN_oz h m, h _ (by omega)]; rfl
def a_inR (J N : Nat → Nat → Int32) (t j : Nat) : Int32 := nI (t_beh J N t (g_p J N) j)
def a_left (J N : Nat → Nat → Int32) (t : Nat) : Int32 := nI (sumN (t_beh J N t (g_p J N)) 20)
theorem ES.a8 {J J2 N N2 : Nat → Nat → Int32} (h : ES J J2 N N2) : a_inR J2 N2 = a_inR J N := by funext t j; unfold a_inR; rw [h.beh, h.gp]
theorem ES.a9 {J J2 N N2 : Nat → Nat → Int32} (h : ES J J2 N N2) : a_left J2 N2 = a_left J N := by funext t; unfold a_left; rw [h.beh, h.gp]
def sp_X11_behind (E : zk_E) : zk_Sp zk_S := fun av σ sz P PX => match av with
  | [.ref a, .int n] => a = zk_ad E 22 ∧ MI σ.1 σ.2.1 ∧ SV σ.1 σ.2.1 ∧ E.1 + 55 ≤ sz ∧ (∃ t, t ≤ 999 ∧ n = nI t) ∧ ∀ A, P (some (.ref sz)) (σ.1, zk_un σ.2.1 53 A, σ.2.2.1, zk_up σ.2.2.2.1 sz (t_arr E (t_beh σ.1 σ.2.1 n.toNatClampNeg (g_p σ.1 σ.2.1))), σ.2.2.2.2) (sz + 1)
  | _ => False
theorem spe_X11_behind (E : zk_E) (a : Nat) (n : Int32) (σ : zk_S) (sz : Nat) (P : zk_P zk_S) (PX : zk_X zk_S) : sp_X11_behind E [.ref a, .int n] σ sz P PX = (a = zk_ad E 22 ∧ MI σ.1 σ.2.1 ∧ SV σ.1 σ.2.1 ∧ E.1 + 55 ≤ sz ∧ (∃ t, t ≤ 999 ∧ n = nI t) ∧ ∀ A, P (some (.ref sz)) (σ.1, zk_un σ.2.1 53 A, σ.2.2.1, zk_up σ.2.2.2.1 sz (t_arr E (t_beh σ.1 σ.2.1 n.toNatClampNeg (g_p σ.1 σ.2.1))), σ.2.2.2.2) (sz + 1)) := propext Iff.rfl
def C_X11_behind (E : zk_E) : zk_Cl zk_S := zk_lka [(1, 1, 1, 20, zk_rv (zk_VT E) (fun ci => Nat.beq ci 10) (sp_X11_beginning E)), (16, 4, 0, 0, zk_rv (zk_VT E) (fun ci => Nat.beq ci 10) (sp_X11_tick E))]
theorem r_X11_behind (E : zk_E) (P : zk_P zk_S) (PX : zk_X zk_S) (K : Nat → zk_L → List Value → zk_W zk_S → Prop) : (∀ (n : Nat) (l1 l2 l3 : Option Value) (y0 : Value) (r : List Value) (σ : zk_S) (sz k c : Nat), zk_run E (zk_VT E) M_X11_behind (C_X11_behind E) P PX K (n + 1) 0 [some y0, l1, l2, l3] r (σ, sz, k, c) = (zk_isr y0 ∧ zk_run E (zk_VT E) M_X11_behind (C_X11_behind E) P PX K n 1 [some y0, l1, l2, l3] (y0 :: r) (σ, sz, k, c))) ∧
  (∀ (n : Nat) (l0 l1 l2 l3 : Option Value) (v0 : Value)  (σ : zk_S) (sz k c : Nat), zk_run E (zk_VT E) M_X11_behind (C_X11_behind E) P PX K (n + 1) 1 [l0, l1, l2, l3] [v0] (σ, sz, k, c) = (k + 1 ≤ 1 ∧ c + 20 ≤ 20 ∧ (zk_rv (zk_VT E) (fun ci => Nat.beq ci 10) (sp_X11_beginning E)) [v0] σ sz (fun v s2 z2 => zk_run E (zk_VT E) M_X11_behind (C_X11_behind E) P PX K n 4 [l0, l1, l2, l3] (zk_psh v []) (s2, z2, k + 1, c + 20)) (fun X s2 z2 => PX X s2 z2))) ∧
  (∀ (n : Nat) (l0 l1 l2 l3 : Option Value) (x : Value) (r : List Value) (σ : zk_S) (sz k c : Nat), zk_run E (zk_VT E) M_X11_behind (C_X11_behind E) P PX K (n + 1) 4 [l0, l1, l2, l3] (x :: r) (σ, sz, k, c) = (zk_isr x ∧ zk_run E (zk_VT E) M_X11_behind (C_X11_behind E) P PX K n 5 [l0, zk_kl l1, some (x), l3] r (σ, sz, k, c))) ∧
  (∀ (n : Nat) (l0 l1 l2 l3 : Option Value)  (r : List Value) (σ : zk_S) (sz k c : Nat), zk_run E (zk_VT E) M_X11_behind (C_X11_behind E) P PX K (n + 1) 5 [l0, l1, l2, l3] r (σ, sz, k, c) = zk_run E (zk_VT E) M_X11_behind (C_X11_behind E) P PX K n 6 [l0, l1, l2, l3] (.int (0) :: r) (σ, sz, k, c)) ∧
  (∀ (n : Nat) (l0 l1 l2 l3 : Option Value) (x : Int32) (r : List Value) (σ : zk_S) (sz k c : Nat), zk_run E (zk_VT E) M_X11_behind (C_X11_behind E) P PX K (n + 1) 6 [l0, l1, l2, l3] (.int x :: r) (σ, sz, k, c) = zk_run E (zk_VT E) M_X11_behind (C_X11_behind E) P PX K n 7 [l0, l1, zk_kl l2, some (.int x)] r (σ, sz, k, c)) ∧
  (∀ (n : Nat) (l0 l1 l2 l3 : Option Value)  (r : List Value) (σ : zk_S) (sz k c : Nat), zk_run E (zk_VT E) M_X11_behind (C_X11_behind E) P PX K (n + 1) 7 [l0, l1, l2, l3] r (σ, sz, k, c) = K 7 [l0, l1, l2, l3] r (σ, sz, k, c)) ∧
  (∀ (n : Nat) (l0 l2 l3 : Option Value) (y1 : Int32) (r : List Value) (σ : zk_S) (sz k c : Nat), zk_run E (zk_VT E) M_X11_behind (C_X11_behind E) P PX K (n + 1) 8 [l0, some (.int y1), l2, l3] r (σ, sz, k, c) = zk_run E (zk_VT E) M_X11_behind (C_X11_behind E) P PX K n 9 [l0, some (.int y1), l2, l3] (.int y1 :: r) (σ, sz, k, c)) ∧
  (∀ (n : Nat) (l0 l1 l2 l3 : Option Value) (x y : Int32) (r : List Value) (σ : zk_S) (sz k c : Nat), zk_run E (zk_VT E) M_X11_behind (C_X11_behind E) P PX K (n + 1) 9 [l0, l1, l2, l3] (.int y :: .int x :: r) (σ, sz, k, c) = ((y ≤ x → zk_run E (zk_VT E) M_X11_behind (C_X11_behind E) P PX K n 31 [l0, l1, l2, l3] r (σ, sz, k, c)) ∧ (¬ (y ≤ x) → zk_run E (zk_VT E) M_X11_behind (C_X11_behind E) P PX K n 12 [l0, l1, l2, l3] r (σ, sz, k, c)))) ∧
  (∀ (n : Nat) (l1 l2 l3 : Option Value) (y0 : Value) (r : List Value) (σ : zk_S) (sz k c : Nat), zk_run E (zk_VT E) M_X11_behind (C_X11_behind E) P PX K (n + 1) 12 [some y0, l1, l2, l3] r (σ, sz, k, c) = (zk_isr y0 ∧ zk_run E (zk_VT E) M_X11_behind (C_X11_behind E) P PX K n 13 [some y0, l1, l2, l3] (y0 :: r) (σ, sz, k, c))) ∧
  (∀ (n : Nat) (l0 l1 l3 : Option Value) (y2 : Value) (r : List Value) (σ : zk_S) (sz k c : Nat), zk_run E (zk_VT E) M_X11_behind (C_X11_behind E) P PX K (n + 1) 13 [l0, l1, some y2, l3] r (σ, sz, k, c) = (zk_isr y2 ∧ zk_run E (zk_VT E) M_X11_behind (C_X11_behind E) P PX K n 14 [l0, l1, some y2, l3] (y2 :: r) (σ, sz, k, c))) ∧
  (∀ (n : Nat) (l0 l1 l2 l3 : Option Value)  (r : List Value) (σ : zk_S) (sz k c : Nat), zk_run E (zk_VT E) M_X11_behind (C_X11_behind E) P PX K (n + 1) 14 [l0, l1, l2, l3] r (σ, sz, k, c) = zk_run E (zk_VT E) M_X11_behind (C_X11_behind E) P PX K n 15 [l0, l1, l2, l3] (.int ((-1)) :: r) (σ, sz, k, c)) ∧
  (∀ (n : Nat) (l0 l1 l2 l3 : Option Value)  (r : List Value) (σ : zk_S) (sz k c : Nat), zk_run E (zk_VT E) M_X11_behind (C_X11_behind E) P PX K (n + 1) 15 [l0, l1, l2, l3] r (σ, sz, k, c) = zk_run E (zk_VT E) M_X11_behind (C_X11_behind E) P PX K n 16 [l0, l1, l2, l3] (.int (0) :: r) (σ, sz, k, c)) ∧
  (∀ (n : Nat) (l0 l1 l2 l3 : Option Value) (v0 : Value) (v1 : Value) (v2 : Value) (v3 : Value)  (σ : zk_S) (sz k c : Nat), zk_run E (zk_VT E) M_X11_behind (C_X11_behind E) P PX K (n + 1) 16 [l0, l1, l2, l3] [v0, v1, v2, v3] (σ, sz, k, c) = (k + 0 ≤ 1 ∧ c + 0 ≤ 20 ∧ (zk_rv (zk_VT E) (fun ci => Nat.beq ci 10) (sp_X11_tick E)) [v3, v2, v1, v0] σ sz (fun v s2 z2 => zk_run E (zk_VT E) M_X11_behind (C_X11_behind E) P PX K n 19 [l0, l1, l2, l3] (zk_psh v []) (s2, z2, k + 0, c + 0)) (fun X s2 z2 => PX X s2 z2))) ∧
  (∀ (n : Nat) (l0 l1 l2 l3 : Option Value) (x : Int32) (r : List Value) (σ : zk_S) (sz k c : Nat), zk_run E (zk_VT E) M_X11_behind (C_X11_behind E) P PX K (n + 1) 19 [l0, l1, l2, l3] (.int x :: r) (σ, sz, k, c) = ((¬ x = 0 → zk_run E (zk_VT E) M_X11_behind (C_X11_behind E) P PX K n 25 [l0, l1, l2, l3] r (σ, sz, k, c)) ∧ (¬ (¬ x = 0) → zk_run E (zk_VT E) M_X11_behind (C_X11_behind E) P PX K n 22 [l0, l1, l2, l3] r (σ, sz, k, c)))) ∧
  (∀ (n : Nat) (l0 l1 l2 l3 : Option Value)  (r : List Value) (σ : zk_S) (sz k c : Nat), zk_run E (zk_VT E) M_X11_behind (C_X11_behind E) P PX K (n + 1) 22 [l0, l1, l2, l3] r (σ, sz, k, c) = zk_run E (zk_VT E) M_X11_behind (C_X11_behind E) P PX K n 31 [l0, l1, l2, l3] r (σ, sz, k, c)) ∧
  (∀ (n : Nat) (l0 l1 l2 : Option Value) (y3 : Int32) (r : List Value) (σ : zk_S) (sz k c : Nat), zk_run E (zk_VT E) M_X11_behind (C_X11_behind E) P PX K (n + 1) 25 [l0, l1, l2, some (.int y3)] r (σ, sz, k, c) = zk_run E (zk_VT E) M_X11_behind (C_X11_behind E) P PX K n 28 [l0, l1, zk_kl l2, some (.int (y3 + 1))] r (σ, sz, k, c)) ∧
  (∀ (n : Nat) (l0 l1 l2 l3 : Option Value)  (r : List Value) (σ : zk_S) (sz k c : Nat), zk_run E (zk_VT E) M_X11_behind (C_X11_behind E) P PX K (n + 1) 28 [l0, l1, l2, l3] r (σ, sz, k, c) = zk_run E (zk_VT E) M_X11_behind (C_X11_behind E) P PX K n 7 [l0, l1, l2, l3] r (σ, sz, k, c)) ∧
  (∀ (n : Nat) (l0 l1 l3 : Option Value) (y2 : Value) (r : List Value) (σ : zk_S) (sz k c : Nat), zk_run E (zk_VT E) M_X11_behind (C_X11_behind E) P PX K (n + 1) 31 [l0, l1, some y2, l3] r (σ, sz, k, c) = (zk_isr y2 ∧ zk_run E (zk_VT E) M_X11_behind (C_X11_behind E) P PX K n 32 [l0, l1, some y2, l3] (y2 :: r) (σ, sz, k, c))) ∧
  (∀ (n : Nat) (l0 l1 l2 l3 : Option Value) (x : Value)  (σ : zk_S) (sz k c : Nat), zk_run E (zk_VT E) M_X11_behind (C_X11_behind E) P PX K (n + 1) 32 [l0, l1, l2, l3] [x] (σ, sz, k, c) = (zk_isr x ∧ P (some (x)) σ sz ∧ k ≤ 1 ∧ c ≤ 20)) ∧
  (∀ (n : Nat) (l0 l1 l2 l3 : Option Value) (r : List Value) (w : zk_W zk_S), zk_go E (zk_VT E) M_X11_behind (C_X11_behind E) P PX K n 0 [l0, l1, l2, l3] r w = zk_run E (zk_VT E) M_X11_behind (C_X11_behind E) P PX K (n + 1) 0 [l0, l1, l2, l3] r w) ∧
  (∀ (n : Nat) (l0 l1 l2 : Option Value) (y3 : Int32) (r : List Value) (σ : zk_S) (sz k c : Nat), zk_go E (zk_VT E) M_X11_behind (C_X11_behind E) P PX K n 7 [l0, l1, l2, some (.int y3)] r (σ, sz, k, c) = zk_run E (zk_VT E) M_X11_behind (C_X11_behind E) P PX K n 8 [l0, l1, l2, some (.int y3)] (.int y3 :: r) (σ, sz, k, c)) := ⟨by intros; rfl, by intros; rfl, by intros; rfl, by intros; rfl, by intros; rfl, by intros; rfl, by intros; rfl, by intros; rfl, by intros; rfl, by intros; rfl, by intros; rfl, by intros; rfl, by intros; rfl, by intros; rfl, by intros; rfl, by intros; rfl, by intros; rfl, by intros; rfl, by intros; rfl, by intros; rfl, by intros; rfl⟩
theorem vc_X11_behind (E : zk_E) : zk_VC E (zk_VT E) M_X11_behind (C_X11_behind E) 4 (sp_X11_behind E) := by
  intro av σ sz P PX h
  obtain ⟨J, N, Q, O, U⟩ := σ
  unfold sp_X11_behind at h
  split at h
  case h_2 => exact h.elim
  rename_i a0 n
  obtain ⟨rfl, h⟩ := h
  refine ⟨Nat.le_of_ble_eq_true rfl, fun G hG => ?_⟩
  change G 0 [some (.ref (zk_ad E 22)), some (.int n), none, none] [] ((J, N, Q, O, U), sz, 0, 0)
  try dsimp only at h
  obtain ⟨hmi, hsv, hsz, ⟨t, ht, rfl⟩, h⟩ := h
  rw [n_cl (by omega)] at h
  have hms := hmi.1
  have hb : E.1 + 55 ≤ sz := hsz
  have es : ∀ A, ES J J N (zk_un N 53 A) := fun A => ES.un (by decide)
  have run : ∀ n f A k, k + n = t → sumN f 20 ≤ 4000 → t_beh J N n f = t_beh J N t (g_p J N) → G 7 [some (.ref (zk_ad E 22)), some (.int (nI t)), some (.ref sz), some (.int (nI k))] [] ((J, zk_un N 53 A, Q, zk_up O sz (t_arr E f), U), sz + 1, 1, 20) := by
    intro n
    induction n with
    | zero =>
      intro f A k hk hf hP
      have c1 : nI t ≤ nI k := nI_le (by omega) (by omega)
      have h2 := h A
      rw [← hP] at h2
      (refine hG 900 _ _ _ _ ?_; simp only [r_X11_behind, zk_kl_none, zk_kl_int, zk_kl_ref, zk_kl_null, zk_kl_long, zk_kl_rf, zk_isr_ref, zk_isr_null, zk_isr_rf9, zk_c1_int, zk_c1_ref, zk_c1_null, zk_c1_rf, zk_psh_some, zk_psh_none, zk_nok_int, zk_nok_bool0, zk_nok_bool1, zk_nok_b, zk_fok_0, zk_fok_1, zk_fok_2, zk_fok_n, zk_fok_rf, zb_f, zb_p, zb_i, zb_a, zb_s, zk_nth_0, zk_nth_s, zk_fld_o, zk_put_o, zk_rv_eq, zk_ri_eq, zk_is_o, List.mem_cons, List.not_mem_nil, or_false, false_or, or_true, true_or, and_true, true_and, not_false_iff, not_true_eq_false, true_implies, false_implies, imp_self, implies_true, forall_const, zk_lit, zk_uj_ap, zk_un_ap, zk_un_un, zk_uj_uj, Nat.reduceEqDiff, eq_self, zk_bq, Bool.true_or, Bool.false_or, Nat.le_refl, Nat.zero_add, Nat.add_zero, Nat.reduceAdd, Nat.reduceLeDiff, Nat.le_zero_eq, and_self, and_false, false_and, ite_true, ite_false, Nat.zero_le, List.length_cons, List.length_nil, Option.some.injEq, forall_eq', reduceCtorEq, c1])
      exact h2
    | succ n ih =>
      intro f A k hk hf hP
      have c1 : ¬ nI t ≤ nI k := nI_ge (by omega) (by omega)
      have e0 : (0 : Int32) = nI 0 := rfl
      (refine hG 900 _ _ _ _ ?_; simp only [r_X11_behind, zk_kl_none, zk_kl_int, zk_kl_ref, zk_kl_null, zk_kl_long, zk_kl_rf, zk_isr_ref, zk_isr_null, zk_isr_rf9, zk_c1_int, zk_c1_ref, zk_c1_null, zk_c1_rf, zk_psh_some, zk_psh_none, zk_nok_int, zk_nok_bool0, zk_nok_bool1, zk_nok_b, zk_fok_0, zk_fok_1, zk_fok_2, zk_fok_n, zk_fok_rf, zb_f, zb_p, zb_i, zb_a, zb_s, zk_nth_0, zk_nth_s, zk_fld_o, zk_put_o, zk_rv_eq, zk_ri_eq, zk_is_o, List.mem_cons, List.not_mem_nil, or_false, false_or, or_true, true_or, and_true, true_and, not_false_iff, not_true_eq_false, true_implies, false_implies, imp_self, implies_true, forall_const, zk_lit, zk_uj_ap, zk_un_ap, zk_un_un, zk_uj_uj, Nat.reduceEqDiff, eq_self, zk_bq, Bool.true_or, Bool.false_or, Nat.le_refl, Nat.zero_add, Nat.add_zero, Nat.reduceAdd, Nat.reduceLeDiff, Nat.le_zero_eq, and_self, and_false, false_and, ite_true, ite_false, Nat.zero_le, List.length_cons, List.length_nil, Option.some.injEq, forall_eq', reduceCtorEq, c1, spe_X11_tick])
      refine ⟨(es A).mi hmi, hsv.un A, hb, 0, by decide, rfl, f, hf, zk_up_same _ _ _, fun A2 => ?_⟩
      rw [(es A).tany, (es A).ttick]
      rw [t_beh] at hP
      cases q : t_any J N (t_tick J N (-1) 0 f) (m_nr J) with
      | false =>
        rw [t_beh_none n _ q] at hP
        have h2 := h A2
        rw [← hP] at h2
        simp only [r_X11_behind, zk_kl_none, zk_kl_int, zk_kl_ref, zk_kl_null, zk_kl_long, zk_kl_rf, zk_isr_ref, zk_isr_null, zk_isr_rf9, zk_c1_int, zk_c1_ref, zk_c1_null, zk_c1_rf, zk_psh_some, zk_psh_none, zk_nok_int, zk_nok_bool0, zk_nok_bool1, zk_nok_b, zk_fok_0, zk_fok_1, zk_fok_2, zk_fok_n, zk_fok_rf, zb_f, zb_p, zb_i, zb_a, zb_s, zk_nth_0, zk_nth_s, zk_fld_o, zk_put_o, zk_rv_eq, zk_ri_eq, zk_is_o, List.mem_cons, List.not_mem_nil, or_false, false_or, or_true, true_or, and_true, true_and, not_false_iff, not_true_eq_false, true_implies, false_implies, imp_self, implies_true, forall_const, zk_lit, zk_uj_ap, zk_un_ap, zk_un_un, zk_uj_uj, Nat.reduceEqDiff, eq_self, zk_bq, Bool.true_or, Bool.false_or, Nat.le_refl, Nat.zero_add, Nat.add_zero, Nat.reduceAdd, Nat.reduceLeDiff, Nat.le_zero_eq, and_self, and_false, false_and, ite_true, ite_false, Nat.zero_le, List.length_cons, List.length_nil, Option.some.injEq, forall_eq', reduceCtorEq, zk_b0, zk_up_up, zk_un_un]
        exact h2
      | true =>
        have ih2 := ih _ A2 (k + 1) (by omega) (Nat.le_trans (t_tick_sum hmi) hf) hP
        simp only [r_X11_behind, zk_kl_none, zk_kl_int, zk_kl_ref, zk_kl_null, zk_kl_long, zk_kl_rf, zk_isr_ref, zk_isr_null, zk_isr_rf9, zk_c1_int, zk_c1_ref, zk_c1_null, zk_c1_rf, zk_psh_some, zk_psh_none, zk_nok_int, zk_nok_bool0, zk_nok_bool1, zk_nok_b, zk_fok_0, zk_fok_1, zk_fok_2, zk_fok_n, zk_fok_rf, zb_f, zb_p, zb_i, zb_a, zb_s, zk_nth_0, zk_nth_s, zk_fld_o, zk_put_o, zk_rv_eq, zk_ri_eq, zk_is_o, List.mem_cons, List.not_mem_nil, or_false, false_or, or_true, true_or, and_true, true_and, not_false_iff, not_true_eq_false, true_implies, false_implies, imp_self, implies_true, forall_const, zk_lit, zk_uj_ap, zk_un_ap, zk_un_un, zk_uj_uj, Nat.reduceEqDiff, eq_self, zk_bq, Bool.true_or, Bool.false_or, Nat.le_refl, Nat.zero_add, Nat.add_zero, Nat.reduceAdd, Nat.reduceLeDiff, Nat.le_zero_eq, and_self, and_false, false_and, ite_true, ite_false, Nat.zero_le, List.length_cons, List.length_nil, Option.some.injEq, forall_eq', reduceCtorEq, zk_b0, zk_up_up, zk_un_un, Bool.true_eq_false, n_succ]
        exact ih2
  have l0 := run t (g_p J N) (N 53) 0 (by omega) (g_p_sum hmi) rfl
  rw [zk_un_self N 53] at l0
  (refine hG 900 _ _ _ _ ?_; simp only [r_X11_behind, zk_kl_none, zk_kl_int, zk_kl_ref, zk_kl_null, zk_kl_long, zk_kl_rf, zk_isr_ref, zk_isr_null, zk_isr_rf9, zk_c1_int, zk_c1_ref, zk_c1_null, zk_c1_rf, zk_psh_some, zk_psh_none, zk_nok_int, zk_nok_bool0, zk_nok_bool1, zk_nok_b, zk_fok_0, zk_fok_1, zk_fok_2, zk_fok_n, zk_fok_rf, zb_f, zb_p, zb_i, zb_a, zb_s, zk_nth_0, zk_nth_s, zk_fld_o, zk_put_o, zk_rv_eq, zk_ri_eq, zk_is_o, List.mem_cons, List.not_mem_nil, or_false, false_or, or_true, true_or, and_true, true_and, not_false_iff, not_true_eq_false, true_implies, false_implies, imp_self, implies_true, forall_const, zk_lit, zk_uj_ap, zk_un_ap, zk_un_un, zk_uj_uj, Nat.reduceEqDiff, eq_self, zk_bq, Bool.true_or, Bool.false_or, Nat.le_refl, Nat.zero_add, Nat.add_zero, Nat.reduceAdd, Nat.reduceLeDiff, Nat.le_zero_eq, and_self, and_false, false_and, ite_true, ite_false, Nat.zero_le, List.length_cons, List.length_nil, Option.some.injEq, forall_eq', reduceCtorEq, spe_X11_beginning, hms, hsz, g_in_p hmi])
  exact l0
theorem ct_X11_behind {l : Launch} (hl : l.stackTraces = false) (E : zk_E) : zk_C l E (zk_VT E) yX11_behind cX11_behind 4 (some (.array .int)) rm_X11_behind (sp_X11_behind E) := by
  refine zk_meth (M := M_X11_behind) (C := C_X11_behind E) hl (by decide +kernel) rfl (fun _ _ => rfl) (zk_VT_ok E) MO_X11_behind TO_X11_behind THo_X11_behind ?_ (vc_X11_behind E)
  exact fun p e s m args below meth c X pc n mc ms sp2 h => by
    have h2 := zk_lka_mem h
    simp only [List.mem_cons, List.not_mem_nil, or_false, Prod.mk.injEq] at h2
    rcases h2 with ⟨rfl, rfl, rfl, rfl, rfl⟩ | ⟨rfl, rfl, rfl, rfl, rfl⟩
    · exact zk_coV (idx := 254) X (ct_X11_beginning hl E) (List.forall_mem_cons.mpr ⟨zk_wi 1341 (by decide +kernel) rfl, List.forall_mem_cons.mpr ⟨zk_wi 1343 (by decide +kernel) rfl, List.forall_mem_cons.mpr ⟨zk_wp 44 (by decide +kernel) rfl, List.forall_mem_cons.mpr ⟨zk_wi 6 (by decide +kernel) rfl, List.forall_mem_cons.mpr ⟨zk_wi 1344 (by decide +kernel) rfl, fun _ h => absurd h List.not_mem_nil⟩⟩⟩⟩⟩) (fun ci h => by
      have h := Nat.eq_of_beq_eq_true h
      subst h
      exact ⟨_, _, rfl⟩) (by decide +kernel) ⟨by decide, by decide, by decide +kernel⟩ ⟨by decide, by decide⟩
    · exact zk_coV (idx := 258) X (ct_X11_tick hl E) (List.forall_mem_cons.mpr ⟨zk_wi 1345 (by decide +kernel) rfl, List.forall_mem_cons.mpr ⟨zk_wi 1347 (by decide +kernel) rfl, List.forall_mem_cons.mpr ⟨zk_wp 45 (by decide +kernel) rfl, List.forall_mem_cons.mpr ⟨zk_wi 6 (by decide +kernel) rfl, List.forall_mem_cons.mpr ⟨zk_wi 1348 (by decide +kernel) rfl, fun _ h => absurd h List.not_mem_nil⟩⟩⟩⟩⟩) (fun ci h => by
      have h := Nat.eq_of_beq_eq_true h
      subst h
      exact ⟨_, _, rfl⟩) (by decide +kernel) ⟨by decide, by decide, by decide +kernel⟩ ⟨by decide, by decide⟩
def sp_X11_leftNow (E : zk_E) : zk_Sp zk_S := fun av σ sz P PX => match av with
  | [.ref a, .int n] => a = zk_ad E 22 ∧ MI σ.1 σ.2.1 ∧ SV σ.1 σ.2.1 ∧ E.1 + 55 ≤ sz ∧ (∃ t, t ≤ 999 ∧ n = nI t) ∧ ∀ A O2, (∀ q, q < sz → O2 q = σ.2.2.2.1 q) → P (some (.int (a_left σ.1 σ.2.1 n.toNatClampNeg))) (σ.1, zk_un σ.2.1 53 A, σ.2.2.1, O2, σ.2.2.2.2) (sz + 1)
  | _ => False
theorem spe_X11_leftNow (E : zk_E) (a : Nat) (n : Int32) (σ : zk_S) (sz : Nat) (P : zk_P zk_S) (PX : zk_X zk_S) : sp_X11_leftNow E [.ref a, .int n] σ sz P PX = (a = zk_ad E 22 ∧ MI σ.1 σ.2.1 ∧ SV σ.1 σ.2.1 ∧ E.1 + 55 ≤ sz ∧ (∃ t, t ≤ 999 ∧ n = nI t) ∧ ∀ A O2, (∀ q, q < sz → O2 q = σ.2.2.2.1 q) → P (some (.int (a_left σ.1 σ.2.1 n.toNatClampNeg))) (σ.1, zk_un σ.2.1 53 A, σ.2.2.1, O2, σ.2.2.2.2) (sz + 1)) := propext Iff.rfl
def C_X11_leftNow (E : zk_E) : zk_Cl zk_S := zk_lka [(4, 2, 1, 20, zk_rv (zk_VT E) (fun ci => Nat.beq ci 10) (sp_X11_behind E))]
theorem r_X11_leftNow (E : zk_E) (P : zk_P zk_S) (PX : zk_X zk_S) (K : Nat → zk_L → List Value → zk_W zk_S → Prop) : (∀ (n : Nat) (l0 l1 l2 l3 l4 : Option Value)  (r : List Value) (σ : zk_S) (sz k c : Nat), zk_run E (zk_VT E) M_X11_leftNow (C_X11_leftNow E) P PX K (n + 1) 0 [l0, l1, l2, l3, l4] r (σ, sz, k, c) = zk_run E (zk_VT E) M_X11_leftNow (C_X11_leftNow E) P PX K n 1 [l0, l1, l2, l3, l4] (.int (0) :: r) (σ, sz, k, c)) ∧
  (∀ (n : Nat) (l0 l1 l2 l3 l4 : Option Value) (x : Int32) (r : List Value) (σ : zk_S) (sz k c : Nat), zk_run E (zk_VT E) M_X11_leftNow (C_X11_leftNow E) P PX K (n + 1) 1 [l0, l1, l2, l3, l4] (.int x :: r) (σ, sz, k, c) = zk_run E (zk_VT E) M_X11_leftNow (C_X11_leftNow E) P PX K n 2 [l0, zk_kl l1, some (.int x), l3, l4] r (σ, sz, k, c)) ∧
  (∀ (n : Nat) (l1 l2 l3 l4 : Option Value) (y0 : Value) (r : List Value) (σ : zk_S) (sz k c : Nat), zk_run E (zk_VT E) M_X11_leftNow (C_X11_leftNow E) P PX K (n + 1) 2 [some y0, l1, l2, l3, l4] r (σ, sz, k, c) = (zk_isr y0 ∧ zk_run E (zk_VT E) M_X11_leftNow (C_X11_leftNow E) P PX K n 3 [some y0, l1, l2, l3, l4] (y0 :: r) (σ, sz, k, c))) ∧
  (∀ (n : Nat) (l0 l2 l3 l4 : Option Value) (y1 : Int32) (r : List Value) (σ : zk_S) (sz k c : Nat), zk_run E (zk_VT E) M_X11_leftNow (C_X11_leftNow E) P PX K (n + 1) 3 [l0, some (.int y1), l2, l3, l4] r (σ, sz, k, c) = zk_run E (zk_VT E) M_X11_leftNow (C_X11_leftNow E) P PX K n 4 [l0, some (.int y1), l2, l3, l4] (.int y1 :: r) (σ, sz, k, c)) ∧
  (∀ (n : Nat) (l0 l1 l2 l3 l4 : Option Value) (v0 : Value) (v1 : Value)  (σ : zk_S) (sz k c : Nat), zk_run E (zk_VT E) M_X11_leftNow (C_X11_leftNow E) P PX K (n + 1) 4 [l0, l1, l2, l3, l4] [v0, v1] (σ, sz, k, c) = (k + 1 ≤ 1 ∧ c + 20 ≤ 20 ∧ (zk_rv (zk_VT E) (fun ci => Nat.beq ci 10) (sp_X11_behind E)) [v1, v0] σ sz (fun v s2 z2 => zk_run E (zk_VT E) M_X11_leftNow (C_X11_leftNow E) P PX K n 7 [l0, l1, l2, l3, l4] (zk_psh v []) (s2, z2, k + 1, c + 20)) (fun X s2 z2 => PX X s2 z2))) ∧
  (∀ (n : Nat) (l0 l1 l2 l3 l4 : Option Value) (x : Value) (r : List Value) (σ : zk_S) (sz k c : Nat), zk_run E (zk_VT E) M_X11_leftNow (C_X11_leftNow E) P PX K (n + 1) 7 [l0, l1, l2, l3, l4] (x :: r) (σ, sz, k, c) = (zk_isr x ∧ zk_run E (zk_VT E) M_X11_leftNow (C_X11_leftNow E) P PX K n 8 [l0, l1, zk_kl l2, some (x), l4] r (σ, sz, k, c))) ∧
  (∀ (n : Nat) (l0 l1 l2 l3 l4 : Option Value)  (r : List Value) (σ : zk_S) (sz k c : Nat), zk_run E (zk_VT E) M_X11_leftNow (C_X11_leftNow E) P PX K (n + 1) 8 [l0, l1, l2, l3, l4] r (σ, sz, k, c) = zk_run E (zk_VT E) M_X11_leftNow (C_X11_leftNow E) P PX K n 9 [l0, l1, l2, l3, l4] (.int (0) :: r) (σ, sz, k, c)) ∧
  (∀ (n : Nat) (l0 l1 l2 l3 l4 : Option Value) (x : Int32) (r : List Value) (σ : zk_S) (sz k c : Nat), zk_run E (zk_VT E) M_X11_leftNow (C_X11_leftNow E) P PX K (n + 1) 9 [l0, l1, l2, l3, l4] (.int x :: r) (σ, sz, k, c) = zk_run E (zk_VT E) M_X11_leftNow (C_X11_leftNow E) P PX K n 11 [l0, l1, l2, zk_kl l3, some (.int x)] r (σ, sz, k, c)) ∧
  (∀ (n : Nat) (l0 l1 l2 l3 l4 : Option Value)  (r : List Value) (σ : zk_S) (sz k c : Nat), zk_run E (zk_VT E) M_X11_leftNow (C_X11_leftNow E) P PX K (n + 1) 11 [l0, l1, l2, l3, l4] r (σ, sz, k, c) = K 11 [l0, l1, l2, l3, l4] r (σ, sz, k, c)) ∧
  (∀ (n : Nat) (l1 l2 l3 l4 : Option Value) (y0 : Value) (r : List Value) (σ : zk_S) (sz k c : Nat), zk_run E (zk_VT E) M_X11_leftNow (C_X11_leftNow E) P PX K (n + 1) 13 [some y0, l1, l2, l3, l4] r (σ, sz, k, c) = (zk_isr y0 ∧ zk_run E (zk_VT E) M_X11_leftNow (C_X11_leftNow E) P PX K n 14 [some y0, l1, l2, l3, l4] (y0 :: r) (σ, sz, k, c))) ∧
  (∀ (n : Nat) (l0 l1 l2 l3 l4 : Option Value) (a : Nat) (r : List Value) (σ : zk_S) (sz k c : Nat), zk_run E (zk_VT E) M_X11_leftNow (C_X11_leftNow E) P PX K (n + 1) 14 [l0, l1, l2, l3, l4] (.ref a :: r) (σ, sz, k, c) = zk_fld (zk_view E σ a) [10] 1 (fun v => zk_run E (zk_VT E) M_X11_leftNow (C_X11_leftNow E) P PX K n 17 [l0, l1, l2, l3, l4] (v :: r) (σ, sz, k, c))) ∧
  (∀ (n : Nat) (l0 l1 l2 l3 l4 : Option Value) (x y : Int32) (r : List Value) (σ : zk_S) (sz k c : Nat), zk_run E (zk_VT E) M_X11_leftNow (C_X11_leftNow E) P PX K (n + 1) 17 [l0, l1, l2, l3, l4] (.int y :: .int x :: r) (σ, sz, k, c) = ((y ≤ x → zk_run E (zk_VT E) M_X11_leftNow (C_X11_leftNow E) P PX K n 33 [l0, l1, l2, l3, l4] r (σ, sz, k, c)) ∧ (¬ (y ≤ x) → zk_run E (zk_VT E) M_X11_leftNow (C_X11_leftNow E) P PX K n 20 [l0, l1, l2, l3, l4] r (σ, sz, k, c)))) ∧
  (∀ (n : Nat) (l0 l1 l3 l4 : Option Value) (y2 : Int32) (r : List Value) (σ : zk_S) (sz k c : Nat), zk_run E (zk_VT E) M_X11_leftNow (C_X11_leftNow E) P PX K (n + 1) 20 [l0, l1, some (.int y2), l3, l4] r (σ, sz, k, c) = zk_run E (zk_VT E) M_X11_leftNow (C_X11_leftNow E) P PX K n 21 [l0, l1, some (.int y2), l3, l4] (.int y2 :: r) (σ, sz, k, c)) ∧
  (∀ (n : Nat) (l0 l1 l2 l4 : Option Value) (y3 : Value) (r : List Value) (σ : zk_S) (sz k c : Nat), zk_run E (zk_VT E) M_X11_leftNow (C_X11_leftNow E) P PX K (n + 1) 21 [l0, l1, l2, some y3, l4] r (σ, sz, k, c) = (zk_isr y3 ∧ zk_run E (zk_VT E) M_X11_leftNow (C_X11_leftNow E) P PX K n 22 [l0, l1, l2, some y3, l4] (y3 :: r) (σ, sz, k, c))) ∧
  (∀ (n : Nat) (l0 l1 l2 l3 : Option Value) (y4 : Int32) (r : List Value) (σ : zk_S) (sz k c : Nat), zk_run E (zk_VT E) M_X11_leftNow (C_X11_leftNow E) P PX K (n + 1) 22 [l0, l1, l2, l3, some (.int y4)] r (σ, sz, k, c) = zk_run E (zk_VT E) M_X11_leftNow (C_X11_leftNow E) P PX K n 24 [l0, l1, l2, l3, some (.int y4)] (.int y4 :: r) (σ, sz, k, c)) ∧
  (∀ (n : Nat) (l0 l1 l2 l3 l4 : Option Value) (a : Nat) (i : Int32) (r : List Value) (σ : zk_S) (sz k c : Nat), zk_run E (zk_VT E) M_X11_leftNow (C_X11_leftNow E) P PX K (n + 1) 24 [l0, l1, l2, l3, l4] (.int i :: .ref a :: r) (σ, sz, k, c) = zk_ild (zk_view E σ a) (zk_ar E 0) i (fun x => zk_run E (zk_VT E) M_X11_leftNow (C_X11_leftNow E) P PX K n 25 [l0, l1, l2, l3, l4] (.int x :: r) (σ, sz, k, c))) ∧
  (∀ (n : Nat) (l0 l1 l2 l3 l4 : Option Value) (x y : Int32) (r : List Value) (σ : zk_S) (sz k c : Nat), zk_run E (zk_VT E) M_X11_leftNow (C_X11_leftNow E) P PX K (n + 1) 25 [l0, l1, l2, l3, l4] (.int y :: .int x :: r) (σ, sz, k, c) = zk_run E (zk_VT E) M_X11_leftNow (C_X11_leftNow E) P PX K n 26 [l0, l1, l2, l3, l4] (.int (x + y) :: r) (σ, sz, k, c)) ∧
  (∀ (n : Nat) (l0 l1 l2 l3 l4 : Option Value) (x : Int32) (r : List Value) (σ : zk_S) (sz k c : Nat), zk_run E (zk_VT E) M_X11_leftNow (C_X11_leftNow E) P PX K (n + 1) 26 [l0, l1, l2, l3, l4] (.int x :: r) (σ, sz, k, c) = zk_run E (zk_VT E) M_X11_leftNow (C_X11_leftNow E) P PX K n 27 [l0, zk_kl l1, some (.int x), l3, l4] r (σ, sz, k, c)) ∧
  (∀ (n : Nat) (l0 l1 l2 l3 : Option Value) (y4 : Int32) (r : List Value) (σ : zk_S) (sz k c : Nat), zk_run E (zk_VT E) M_X11_leftNow (C_X11_leftNow E) P PX K (n + 1) 27 [l0, l1, l2, l3, some (.int y4)] r (σ, sz, k, c) = zk_run E (zk_VT E) M_X11_leftNow (C_X11_leftNow E) P PX K n 30 [l0, l1, l2, zk_kl l3, some (.int (y4 + 1))] r (σ, sz, k, c)) ∧
  (∀ (n : Nat) (l0 l1 l2 l3 l4 : Option Value)  (r : List Value) (σ : zk_S) (sz k c : Nat), zk_run E (zk_VT E) M_X11_leftNow (C_X11_leftNow E) P PX K (n + 1) 30 [l0, l1, l2, l3, l4] r (σ, sz, k, c) = zk_run E (zk_VT E) M_X11_leftNow (C_X11_leftNow E) P PX K n 11 [l0, l1, l2, l3, l4] r (σ, sz, k, c)) ∧
  (∀ (n : Nat) (l0 l1 l3 l4 : Option Value) (y2 : Int32) (r : List Value) (σ : zk_S) (sz k c : Nat), zk_run E (zk_VT E) M_X11_leftNow (C_X11_leftNow E) P PX K (n + 1) 33 [l0, l1, some (.int y2), l3, l4] r (σ, sz, k, c) = zk_run E (zk_VT E) M_X11_leftNow (C_X11_leftNow E) P PX K n 34 [l0, l1, some (.int y2), l3, l4] (.int y2 :: r) (σ, sz, k, c)) ∧
  (∀ (n : Nat) (l0 l1 l2 l3 l4 : Option Value) (x : Int32)  (σ : zk_S) (sz k c : Nat), zk_run E (zk_VT E) M_X11_leftNow (C_X11_leftNow E) P PX K (n + 1) 34 [l0, l1, l2, l3, l4] [.int x] (σ, sz, k, c) = (zk_nok (some (.int)) x ∧ P (some (.int x)) σ sz ∧ k ≤ 1 ∧ c ≤ 20)) ∧
  (∀ (n : Nat) (l0 l1 l2 l3 l4 : Option Value) (r : List Value) (w : zk_W zk_S), zk_go E (zk_VT E) M_X11_leftNow (C_X11_leftNow E) P PX K n 0 [l0, l1, l2, l3, l4] r w = zk_run E (zk_VT E) M_X11_leftNow (C_X11_leftNow E) P PX K (n + 1) 0 [l0, l1, l2, l3, l4] r w) ∧
  (∀ (n : Nat) (l0 l1 l2 l3 : Option Value) (y4 : Int32) (r : List Value) (σ : zk_S) (sz k c : Nat), zk_go E (zk_VT E) M_X11_leftNow (C_X11_leftNow E) P PX K n 11 [l0, l1, l2, l3, some (.int y4)] r (σ, sz, k, c) = zk_run E (zk_VT E) M_X11_leftNow (C_X11_leftNow E) P PX K n 13 [l0, l1, l2, l3, some (.int y4)] (.int y4 :: r) (σ, sz, k, c)) := ⟨by intros; rfl, by intros; rfl, by intros; rfl, by intros; rfl, by intros; rfl, by intros; rfl, by intros; rfl, by intros; rfl, by intros; rfl, by intros; rfl, by intros; rfl, by intros; rfl, by intros; rfl, by intros; rfl, by intros; rfl, by intros; rfl, by intros; rfl, by intros; rfl, by intros; rfl, by intros; rfl, by intros; rfl, by intros; rfl, by intros; rfl, by intros; rfl⟩
theorem vc_X11_leftNow (E : zk_E) : zk_VC E (zk_VT E) M_X11_leftNow (C_X11_leftNow E) 5 (sp_X11_leftNow E) := by
  intro av σ sz P PX h
  obtain ⟨J, N, Q, O, U⟩ := σ
  unfold sp_X11_leftNow at h
  split at h
  case h_2 => exact h.elim
  rename_i a0 n
  obtain ⟨rfl, h⟩ := h
  refine ⟨Nat.le_of_ble_eq_true rfl, fun G hG => ?_⟩
  change G 0 [some (.ref (zk_ad E 22)), some (.int n), none, none, none] [] ((J, N, Q, O, U), sz, 0, 0)
  try dsimp only at h
  obtain ⟨hmi, hsv, hsz, ⟨t, ht, rfl⟩, h⟩ := h
  have hx : ∃ t', t' ≤ 999 ∧ nI t = nI t' := ⟨t, ht, rfl⟩
  have hclt : (nI t).toNatClampNeg = t := n_cl (by omega)
  rw [hclt] at h
  have hms := hmi.1
  have hnr := hms.1.1
  have hnr20 := hms.1.2
  have hb : E.1 + 55 ≤ sz := hsz
  have hs20 := Nat.le_trans (t_beh_sum hmi t (g_p J N)) (g_p_sum hmi)
  have loop : ∀ A m r, r + m = m_nr J → G 11 [some (.ref (zk_ad E 22)), some (.int (nI t)), some (.int (nI (sumN (t_beh J N t (g_p J N)) r))), some (.ref sz), some (.int (nI r))] [] ((J, zk_un N 53 A, Q, zk_up O sz (t_arr E (t_beh J N t (g_p J N))), U), sz + 1, 1, 20) := by
    intro A m
    induction m with
    | zero =>
      intro r hr
      have c1 : nI (m_nr J) ≤ nI r := nI_le (by omega) (by omega)
      have er : r = m_nr J := by omega
      subst er
      have h2 := h A (zk_up O sz (t_arr E (t_beh J N t (g_p J N)))) (fun q hq => zk_up_ne _ _ (by omega))
      unfold a_left at h2
      rw [show 20 = m_nr J + (20 - m_nr J) by omega, sumN_oz (t_beh_oz hmi t _ (g_p_oz J N))] at h2
      (refine hG 900 _ _ _ _ ?_; simp only [r_X11_leftNow, zk_kl_none, zk_kl_int, zk_kl_ref, zk_kl_null, zk_kl_long, zk_kl_rf, zk_isr_ref, zk_isr_null, zk_isr_rf9, zk_c1_int, zk_c1_ref, zk_c1_null, zk_c1_rf, zk_psh_some, zk_psh_none, zk_nok_int, zk_nok_bool0, zk_nok_bool1, zk_nok_b, zk_fok_0, zk_fok_1, zk_fok_2, zk_fok_n, zk_fok_rf, zb_f, zb_p, zb_i, zb_a, zb_s, zk_nth_0, zk_nth_s, zk_fld_o, zk_put_o, zk_rv_eq, zk_ri_eq, zk_is_o, List.mem_cons, List.not_mem_nil, or_false, false_or, or_true, true_or, and_true, true_and, not_false_iff, not_true_eq_false, true_implies, false_implies, imp_self, implies_true, forall_const, zk_lit, zk_uj_ap, zk_un_ap, zk_un_un, zk_uj_uj, Nat.reduceEqDiff, eq_self, zk_bq, Bool.true_or, Bool.false_or, Nat.le_refl, Nat.zero_add, Nat.add_zero, Nat.reduceAdd, Nat.reduceLeDiff, Nat.le_zero_eq, and_self, and_false, false_and, ite_true, ite_false, Nat.zero_le, List.length_cons, List.length_nil, Option.some.injEq, forall_eq', reduceCtorEq, hnr, c1])
      exact h2
    | succ m ih =>
      intro r hr
      have c1 : ¬ nI (m_nr J) ≤ nI r := nI_ge (by omega) (by omega)
      have ih2 := ih (r + 1) (by omega)
      have hin : vp_in (nI r) 20 := n_in (by omega) (by decide)
      have hcl : (nI r).toNatClampNeg = r := n_cl (by omega)
      rw [sumN] at ih2
      unfold t_arr at ih2 ⊢
      (refine hG 900 _ _ _ _ ?_; simp only [r_X11_leftNow, zk_kl_none, zk_kl_int, zk_kl_ref, zk_kl_null, zk_kl_long, zk_kl_rf, zk_isr_ref, zk_isr_null, zk_isr_rf9, zk_c1_int, zk_c1_ref, zk_c1_null, zk_c1_rf, zk_psh_some, zk_psh_none, zk_nok_int, zk_nok_bool0, zk_nok_bool1, zk_nok_b, zk_fok_0, zk_fok_1, zk_fok_2, zk_fok_n, zk_fok_rf, zb_f, zb_p, zb_i, zb_a, zb_s, zk_nth_0, zk_nth_s, zk_fld_o, zk_put_o, zk_rv_eq, zk_ri_eq, zk_is_o, List.mem_cons, List.not_mem_nil, or_false, false_or, or_true, true_or, and_true, true_and, not_false_iff, not_true_eq_false, true_implies, false_implies, imp_self, implies_true, forall_const, zk_lit, zk_uj_ap, zk_un_ap, zk_un_un, zk_uj_uj, Nat.reduceEqDiff, eq_self, zk_bq, Bool.true_or, Bool.false_or, Nat.le_refl, Nat.zero_add, Nat.add_zero, Nat.reduceAdd, Nat.reduceLeDiff, Nat.le_zero_eq, and_self, and_false, false_and, ite_true, ite_false, Nat.zero_le, List.length_cons, List.length_nil, Option.some.injEq, forall_eq', reduceCtorEq, hnr, c1, hin, hcl, n_succ, n_add, zk_vd hb, zk_up_same, zk_ild_d])
      exact ih2
  (refine hG 900 _ _ _ _ ?_; simp only [r_X11_leftNow, zk_kl_none, zk_kl_int, zk_kl_ref, zk_kl_null, zk_kl_long, zk_kl_rf, zk_isr_ref, zk_isr_null, zk_isr_rf9, zk_c1_int, zk_c1_ref, zk_c1_null, zk_c1_rf, zk_psh_some, zk_psh_none, zk_nok_int, zk_nok_bool0, zk_nok_bool1, zk_nok_b, zk_fok_0, zk_fok_1, zk_fok_2, zk_fok_n, zk_fok_rf, zb_f, zb_p, zb_i, zb_a, zb_s, zk_nth_0, zk_nth_s, zk_fld_o, zk_put_o, zk_rv_eq, zk_ri_eq, zk_is_o, List.mem_cons, List.not_mem_nil, or_false, false_or, or_true, true_or, and_true, true_and, not_false_iff, not_true_eq_false, true_implies, false_implies, imp_self, implies_true, forall_const, zk_lit, zk_uj_ap, zk_un_ap, zk_un_un, zk_uj_uj, Nat.reduceEqDiff, eq_self, zk_bq, Bool.true_or, Bool.false_or, Nat.le_refl, Nat.zero_add, Nat.add_zero, Nat.reduceAdd, Nat.reduceLeDiff, Nat.le_zero_eq, and_self, and_false, false_and, ite_true, ite_false, Nat.zero_le, List.length_cons, List.length_nil, Option.some.injEq, forall_eq', reduceCtorEq, spe_X11_behind, hmi, hsv, hsz, hx, hclt])
  exact fun A => loop A (m_nr J) 0 (by omega)
theorem ct_X11_leftNow {l : Launch} (hl : l.stackTraces = false) (E : zk_E) : zk_C l E (zk_VT E) yX11_leftNow cX11_leftNow 5 (some (.int)) rm_X11_leftNow (sp_X11_leftNow E) := by
  refine zk_meth (M := M_X11_leftNow) (C := C_X11_leftNow E) hl (by decide +kernel) rfl (fun _ _ => rfl) (zk_VT_ok E) MO_X11_leftNow TO_X11_leftNow THo_X11_leftNow ?_ (vc_X11_leftNow E)
  exact fun p e s m args below meth c X pc n mc ms sp2 h => by
    have h2 := zk_lka_mem h
    simp only [List.mem_cons, List.not_mem_nil, or_false, Prod.mk.injEq] at h2
    rcases h2 with ⟨rfl, rfl, rfl, rfl, rfl⟩
    exact zk_coV (idx := 265) X (ct_X11_behind hl E) (List.forall_mem_cons.mpr ⟨zk_wi 1357 (by decide +kernel) rfl, List.forall_mem_cons.mpr ⟨zk_wi 1359 (by decide +kernel) rfl, List.forall_mem_cons.mpr ⟨zk_wp 47 (by decide +kernel) rfl, List.forall_mem_cons.mpr ⟨zk_wi 6 (by decide +kernel) rfl, List.forall_mem_cons.mpr ⟨zk_wi 1360 (by decide +kernel) rfl, fun _ h => absurd h List.not_mem_nil⟩⟩⟩⟩⟩) (fun ci h => by
      have h := Nat.eq_of_beq_eq_true h
      subst h
      exact ⟨_, _, rfl⟩) (by decide +kernel) ⟨by decide, by decide, by decide +kernel⟩ ⟨by decide, by decide⟩
/-- what every question's end keeps -/
def ZQ (σ : zk_S) (sz : Nat) (t : Int32) (v : Option Value) (P : zk_P zk_S) : Prop := ∀ J2 N2 O2 sz2, QE σ.1 J2 σ.2.1 N2 t → (∀ q, q < sz → O2 q = σ.2.2.2.1 q) → sz ≤ sz2 → P v (J2, N2, σ.2.2.1, O2, σ.2.2.2.2) sz2
theorem QE.un {J J2 N N2 : Nat → Nat → Int32} {t : Int32} (h : QE J J2 N N2 t) {k : Nat} {A : Nat → Int32} (hk : 47 ≤ k ∧ k ≤ 53) : QE J J2 N (zk_un N2 k A) t := ⟨h.1.un hk, h.2⟩
theorem m_isIn_999 {v : Int32} (h : m_isIn v 0 999 = true) : ∃ t, t ≤ 999 ∧ v = nI t := by
  have e : (999 : Int32) = nI 1000 - 1 := by decide
  rw [e] at h
  obtain ⟨j, h1, h2⟩ := m_isIn_lt (by decide) h
  exact ⟨j, by omega, h2⟩
def sp_X11_timeOut (E : zk_E) : zk_Sp zk_S := fun av σ sz P PX => match av with
  | [.ref a] => a = zk_ad E 22 ∧ MI σ.1 σ.2.1 ∧ E.1 + 55 ≤ sz ∧ ZQ σ sz 0 (some (.int (a_time σ.1 σ.2.1 (-1) 0))) P
  | _ => False
theorem spe_X11_timeOut (E : zk_E) (a : Nat) (σ : zk_S) (sz : Nat) (P : zk_P zk_S) (PX : zk_X zk_S) : sp_X11_timeOut E [.ref a] σ sz P PX = (a = zk_ad E 22 ∧ MI σ.1 σ.2.1 ∧ E.1 + 55 ≤ sz ∧ ZQ σ sz 0 (some (.int (a_time σ.1 σ.2.1 (-1) 0))) P) := propext Iff.rfl
def C_X11_timeOut (E : zk_E) : zk_Cl zk_S := zk_lka [(6, 1, 0, 0, zk_rv (zk_VT E) (fun ci => Nat.beq ci 10) (sp_X11_solve E)), (12, 3, 1, 20, zk_rv (zk_VT E) (fun ci => Nat.beq ci 10) (sp_X11_timeNow E))]
theorem r_X11_timeOut (E : zk_E) (P : zk_P zk_S) (PX : zk_X zk_S) (K : Nat → zk_L → List Value → zk_W zk_S → Prop) : (∀ (n : Nat)  (y0 : Value) (r : List Value) (σ : zk_S) (sz k c : Nat), zk_run E (zk_VT E) M_X11_timeOut (C_X11_timeOut E) P PX K (n + 1) 0 [some y0] r (σ, sz, k, c) = (zk_isr y0 ∧ zk_run E (zk_VT E) M_X11_timeOut (C_X11_timeOut E) P PX K n 1 [some y0] (y0 :: r) (σ, sz, k, c))) ∧
  (∀ (n : Nat) (l0 : Option Value)  (r : List Value) (σ : zk_S) (sz k c : Nat), zk_run E (zk_VT E) M_X11_timeOut (C_X11_timeOut E) P PX K (n + 1) 1 [l0] r (σ, sz, k, c) = zk_run E (zk_VT E) M_X11_timeOut (C_X11_timeOut E) P PX K n 2 [l0] (.int (0) :: r) (σ, sz, k, c)) ∧
  (∀ (n : Nat) (l0 : Option Value) (a : Nat) (v : Value) (r : List Value) (σ : zk_S) (sz k c : Nat), zk_run E (zk_VT E) M_X11_timeOut (C_X11_timeOut E) P PX K (n + 1) 2 [l0] (v :: .ref a :: r) (σ, sz, k, c) = zk_put (zk_view E σ a) [10] 0 0 v (zk_pfok E σ a 0 v ∧ zk_run E (zk_VT E) M_X11_timeOut (C_X11_timeOut E) P PX K n 5 [l0] r (zk_pf E σ a 0 v, sz, k, c))) ∧
  (∀ (n : Nat)  (y0 : Value) (r : List Value) (σ : zk_S) (sz k c : Nat), zk_run E (zk_VT E) M_X11_timeOut (C_X11_timeOut E) P PX K (n + 1) 5 [some y0] r (σ, sz, k, c) = (zk_isr y0 ∧ zk_run E (zk_VT E) M_X11_timeOut (C_X11_timeOut E) P PX K n 6 [some y0] (y0 :: r) (σ, sz, k, c))) ∧
  (∀ (n : Nat) (l0 : Option Value) (v0 : Value)  (σ : zk_S) (sz k c : Nat), zk_run E (zk_VT E) M_X11_timeOut (C_X11_timeOut E) P PX K (n + 1) 6 [l0] [v0] (σ, sz, k, c) = (k + 0 ≤ 1 ∧ c + 0 ≤ 20 ∧ (zk_rv (zk_VT E) (fun ci => Nat.beq ci 10) (sp_X11_solve E)) [v0] σ sz (fun v s2 z2 => zk_run E (zk_VT E) M_X11_timeOut (C_X11_timeOut E) P PX K n 9 [l0] (zk_psh v []) (s2, z2, k + 0, c + 0)) (fun X s2 z2 => PX X s2 z2))) ∧
  (∀ (n : Nat)  (y0 : Value) (r : List Value) (σ : zk_S) (sz k c : Nat), zk_run E (zk_VT E) M_X11_timeOut (C_X11_timeOut E) P PX K (n + 1) 9 [some y0] r (σ, sz, k, c) = (zk_isr y0 ∧ zk_run E (zk_VT E) M_X11_timeOut (C_X11_timeOut E) P PX K n 10 [some y0] (y0 :: r) (σ, sz, k, c))) ∧
  (∀ (n : Nat) (l0 : Option Value)  (r : List Value) (σ : zk_S) (sz k c : Nat), zk_run E (zk_VT E) M_X11_timeOut (C_X11_timeOut E) P PX K (n + 1) 10 [l0] r (σ, sz, k, c) = zk_run E (zk_VT E) M_X11_timeOut (C_X11_timeOut E) P PX K n 11 [l0] (.int ((-1)) :: r) (σ, sz, k, c)) ∧
  (∀ (n : Nat) (l0 : Option Value)  (r : List Value) (σ : zk_S) (sz k c : Nat), zk_run E (zk_VT E) M_X11_timeOut (C_X11_timeOut E) P PX K (n + 1) 11 [l0] r (σ, sz, k, c) = zk_run E (zk_VT E) M_X11_timeOut (C_X11_timeOut E) P PX K n 12 [l0] (.int (0) :: r) (σ, sz, k, c)) ∧
  (∀ (n : Nat) (l0 : Option Value) (v0 : Value) (v1 : Value) (v2 : Value)  (σ : zk_S) (sz k c : Nat), zk_run E (zk_VT E) M_X11_timeOut (C_X11_timeOut E) P PX K (n + 1) 12 [l0] [v0, v1, v2] (σ, sz, k, c) = (k + 1 ≤ 1 ∧ c + 20 ≤ 20 ∧ (zk_rv (zk_VT E) (fun ci => Nat.beq ci 10) (sp_X11_timeNow E)) [v2, v1, v0] σ sz (fun v s2 z2 => zk_run E (zk_VT E) M_X11_timeOut (C_X11_timeOut E) P PX K n 15 [l0] (zk_psh v []) (s2, z2, k + 1, c + 20)) (fun X s2 z2 => PX X s2 z2))) ∧
  (∀ (n : Nat) (l0 : Option Value) (x : Int32)  (σ : zk_S) (sz k c : Nat), zk_run E (zk_VT E) M_X11_timeOut (C_X11_timeOut E) P PX K (n + 1) 15 [l0] [.int x] (σ, sz, k, c) = (zk_nok (some (.int)) x ∧ P (some (.int x)) σ sz ∧ k ≤ 1 ∧ c ≤ 20)) ∧
  (∀ (n : Nat) (l0 : Option Value) (r : List Value) (w : zk_W zk_S), zk_go E (zk_VT E) M_X11_timeOut (C_X11_timeOut E) P PX K n 0 [l0] r w = zk_run E (zk_VT E) M_X11_timeOut (C_X11_timeOut E) P PX K (n + 1) 0 [l0] r w) := ⟨by intros; rfl, by intros; rfl, by intros; rfl, by intros; rfl, by intros; rfl, by intros; rfl, by intros; rfl, by intros; rfl, by intros; rfl, by intros; rfl, by intros; rfl⟩
theorem vc_X11_timeOut (E : zk_E) : zk_VC E (zk_VT E) M_X11_timeOut (C_X11_timeOut E) 1 (sp_X11_timeOut E) := by
  intro av σ sz P PX h
  obtain ⟨J, N, Q, O, U⟩ := σ
  unfold sp_X11_timeOut at h
  split at h
  case h_2 => exact h.elim
  rename_i a0
  obtain ⟨rfl, h⟩ := h
  refine ⟨Nat.le_of_ble_eq_true rfl, fun G hG => ?_⟩
  change G 0 [some (.ref (zk_ad E 22))] [] ((J, N, Q, O, U), sz, 0, 0)
  try dsimp only at h
  obtain ⟨hmi, hsz, h⟩ := h
  have e0 : (0 : Int32) = nI 0 := rfl
  (refine hG 900 _ _ _ _ ?_; simp only [r_X11_timeOut, zk_kl_none, zk_kl_int, zk_kl_ref, zk_kl_null, zk_kl_long, zk_kl_rf, zk_isr_ref, zk_isr_null, zk_isr_rf9, zk_c1_int, zk_c1_ref, zk_c1_null, zk_c1_rf, zk_psh_some, zk_psh_none, zk_nok_int, zk_nok_bool0, zk_nok_bool1, zk_nok_b, zk_fok_0, zk_fok_1, zk_fok_2, zk_fok_n, zk_fok_rf, zb_f, zb_p, zb_i, zb_a, zb_s, zk_nth_0, zk_nth_s, zk_fld_o, zk_put_o, zk_rv_eq, zk_ri_eq, zk_is_o, List.mem_cons, List.not_mem_nil, or_false, false_or, or_true, true_or, and_true, true_and, not_false_iff, not_true_eq_false, true_implies, false_implies, imp_self, implies_true, forall_const, zk_lit, zk_uj_ap, zk_un_ap, zk_un_un, zk_uj_uj, Nat.reduceEqDiff, eq_self, zk_bq, Bool.true_or, Bool.false_or, Nat.le_refl, Nat.zero_add, Nat.add_zero, Nat.reduceAdd, Nat.reduceLeDiff, Nat.le_zero_eq, and_self, and_false, false_and, ite_true, ite_false, Nat.zero_le, List.length_cons, List.length_nil, Option.some.injEq, forall_eq', reduceCtorEq, spe_X11_solve])
  refine ⟨hmi.thr 0, fun J2 N2 hso => ?_⟩
  have qe := (QE.thr J N 0).so hso
  have hsv := hso.sv
  simp only [r_X11_timeOut, zk_kl_none, zk_kl_int, zk_kl_ref, zk_kl_null, zk_kl_long, zk_kl_rf, zk_isr_ref, zk_isr_null, zk_isr_rf9, zk_c1_int, zk_c1_ref, zk_c1_null, zk_c1_rf, zk_psh_some, zk_psh_none, zk_nok_int, zk_nok_bool0, zk_nok_bool1, zk_nok_b, zk_fok_0, zk_fok_1, zk_fok_2, zk_fok_n, zk_fok_rf, zb_f, zb_p, zb_i, zb_a, zb_s, zk_nth_0, zk_nth_s, zk_fld_o, zk_put_o, zk_rv_eq, zk_ri_eq, zk_is_o, List.mem_cons, List.not_mem_nil, or_false, false_or, or_true, true_or, and_true, true_and, not_false_iff, not_true_eq_false, true_implies, false_implies, imp_self, implies_true, forall_const, zk_lit, zk_uj_ap, zk_un_ap, zk_un_un, zk_uj_uj, Nat.reduceEqDiff, eq_self, zk_bq, Bool.true_or, Bool.false_or, Nat.le_refl, Nat.zero_add, Nat.add_zero, Nat.reduceAdd, Nat.reduceLeDiff, Nat.le_zero_eq, and_self, and_false, false_and, ite_true, ite_false, Nat.zero_le, List.length_cons, List.length_nil, Option.some.injEq, forall_eq', reduceCtorEq, spe_X11_timeNow]
  refine ⟨qe.es.mi hmi, hsv, hsz, 0, by decide, rfl, fun A O2 hO => ?_⟩
  rw [qe.es.a7]
  exact h _ _ _ _ (qe.un (by decide)) hO (Nat.le_succ _)
theorem ct_X11_timeOut {l : Launch} (hl : l.stackTraces = false) (E : zk_E) : zk_C l E (zk_VT E) yX11_timeOut cX11_timeOut 1 (some (.int)) rm_X11_timeOut (sp_X11_timeOut E) := by
  refine zk_meth (M := M_X11_timeOut) (C := C_X11_timeOut E) hl (by decide +kernel) rfl (fun _ _ => rfl) (zk_VT_ok E) MO_X11_timeOut TO_X11_timeOut THo_X11_timeOut ?_ (vc_X11_timeOut E)
  exact fun p e s m args below meth c X pc n mc ms sp2 h => by
    have h2 := zk_lka_mem h
    simp only [List.mem_cons, List.not_mem_nil, or_false, Prod.mk.injEq] at h2
    rcases h2 with ⟨rfl, rfl, rfl, rfl, rfl⟩ | ⟨rfl, rfl, rfl, rfl, rfl⟩
    · exact zk_coV (idx := 227) X (ct_X11_solve hl E) (List.forall_mem_cons.mpr ⟨zk_wi 1227 (by decide +kernel) rfl, List.forall_mem_cons.mpr ⟨zk_wi 1229 (by decide +kernel) rfl, List.forall_mem_cons.mpr ⟨zk_wp 24 (by decide +kernel) rfl, List.forall_mem_cons.mpr ⟨zk_wi 6 (by decide +kernel) rfl, List.forall_mem_cons.mpr ⟨zk_wi 1230 (by decide +kernel) rfl, fun _ h => absurd h List.not_mem_nil⟩⟩⟩⟩⟩) (fun ci h => by
      have h := Nat.eq_of_beq_eq_true h
      subst h
      exact ⟨_, _, rfl⟩) (by decide +kernel) ⟨by decide, by decide, by decide +kernel⟩ ⟨by decide, by decide⟩
    · exact zk_coV (idx := 262) X (ct_X11_timeNow hl E) (List.forall_mem_cons.mpr ⟨zk_wi 1337 (by decide +kernel) rfl, List.forall_mem_cons.mpr ⟨zk_wi 1339 (by decide +kernel) rfl, List.forall_mem_cons.mpr ⟨zk_wp 43 (by decide +kernel) rfl, List.forall_mem_cons.mpr ⟨zk_wi 6 (by decide +kernel) rfl, List.forall_mem_cons.mpr ⟨zk_wi 1340 (by decide +kernel) rfl, fun _ h => absurd h List.not_mem_nil⟩⟩⟩⟩⟩) (fun ci h => by
      have h := Nat.eq_of_beq_eq_true h
      subst h
      exact ⟨_, _, rfl⟩) (by decide +kernel) ⟨by decide, by decide, by decide +kernel⟩ ⟨by decide, by decide⟩
def sp_X11_left (E : zk_E) : zk_Sp zk_S := fun av σ sz P PX => match av with
  | [.ref a, .int n] => a = zk_ad E 22 ∧ MI σ.1 σ.2.1 ∧ E.1 + 55 ≤ sz ∧ (m_isIn n 0 999 = false → ZQ σ sz 1 (some (.int 0)) P) ∧ (m_isIn n 0 999 = true → ZQ σ sz 0 (some (.int (a_left σ.1 σ.2.1 n.toNatClampNeg))) P)
  | _ => False
theorem spe_X11_left (E : zk_E) (a : Nat) (n : Int32) (σ : zk_S) (sz : Nat) (P : zk_P zk_S) (PX : zk_X zk_S) : sp_X11_left E [.ref a, .int n] σ sz P PX = (a = zk_ad E 22 ∧ MI σ.1 σ.2.1 ∧ E.1 + 55 ≤ sz ∧ (m_isIn n 0 999 = false → ZQ σ sz 1 (some (.int 0)) P) ∧ (m_isIn n 0 999 = true → ZQ σ sz 0 (some (.int (a_left σ.1 σ.2.1 n.toNatClampNeg))) P)) := propext Iff.rfl
def C_X11_left (E : zk_E) : zk_Cl zk_S := zk_lka [(10, 3, 0, 0, sp_X11_isIn E), (18, 2, 0, 0, zk_rv (zk_VT E) (fun ci => Nat.beq ci 10) (sp_X11_no E)), (23, 1, 0, 0, zk_rv (zk_VT E) (fun ci => Nat.beq ci 10) (sp_X11_solve E)), (28, 2, 1, 20, zk_rv (zk_VT E) (fun ci => Nat.beq ci 10) (sp_X11_leftNow E))]
theorem r_X11_left (E : zk_E) (P : zk_P zk_S) (PX : zk_X zk_S) (K : Nat → zk_L → List Value → zk_W zk_S → Prop) : (∀ (n : Nat) (l1 : Option Value) (y0 : Value) (r : List Value) (σ : zk_S) (sz k c : Nat), zk_run E (zk_VT E) M_X11_left (C_X11_left E) P PX K (n + 1) 0 [some y0, l1] r (σ, sz, k, c) = (zk_isr y0 ∧ zk_run E (zk_VT E) M_X11_left (C_X11_left E) P PX K n 1 [some y0, l1] (y0 :: r) (σ, sz, k, c))) ∧
  (∀ (n : Nat) (l0 l1 : Option Value)  (r : List Value) (σ : zk_S) (sz k c : Nat), zk_run E (zk_VT E) M_X11_left (C_X11_left E) P PX K (n + 1) 1 [l0, l1] r (σ, sz, k, c) = zk_run E (zk_VT E) M_X11_left (C_X11_left E) P PX K n 2 [l0, l1] (.int (0) :: r) (σ, sz, k, c)) ∧
  (∀ (n : Nat) (l0 l1 : Option Value) (a : Nat) (v : Value) (r : List Value) (σ : zk_S) (sz k c : Nat), zk_run E (zk_VT E) M_X11_left (C_X11_left E) P PX K (n + 1) 2 [l0, l1] (v :: .ref a :: r) (σ, sz, k, c) = zk_put (zk_view E σ a) [10] 0 0 v (zk_pfok E σ a 0 v ∧ zk_run E (zk_VT E) M_X11_left (C_X11_left E) P PX K n 5 [l0, l1] r (zk_pf E σ a 0 v, sz, k, c))) ∧
  (∀ (n : Nat) (l0 : Option Value) (y1 : Int32) (r : List Value) (σ : zk_S) (sz k c : Nat), zk_run E (zk_VT E) M_X11_left (C_X11_left E) P PX K (n + 1) 5 [l0, some (.int y1)] r (σ, sz, k, c) = zk_run E (zk_VT E) M_X11_left (C_X11_left E) P PX K n 6 [l0, some (.int y1)] (.int y1 :: r) (σ, sz, k, c)) ∧
  (∀ (n : Nat) (l0 l1 : Option Value)  (r : List Value) (σ : zk_S) (sz k c : Nat), zk_run E (zk_VT E) M_X11_left (C_X11_left E) P PX K (n + 1) 6 [l0, l1] r (σ, sz, k, c) = zk_run E (zk_VT E) M_X11_left (C_X11_left E) P PX K n 7 [l0, l1] (.int (0) :: r) (σ, sz, k, c)) ∧
  (∀ (n : Nat) (l0 l1 : Option Value)  (r : List Value) (σ : zk_S) (sz k c : Nat), zk_run E (zk_VT E) M_X11_left (C_X11_left E) P PX K (n + 1) 7 [l0, l1] r (σ, sz, k, c) = zk_run E (zk_VT E) M_X11_left (C_X11_left E) P PX K n 10 [l0, l1] (.int (999) :: r) (σ, sz, k, c)) ∧
  (∀ (n : Nat) (l0 l1 : Option Value) (v0 : Value) (v1 : Value) (v2 : Value)  (σ : zk_S) (sz k c : Nat), zk_run E (zk_VT E) M_X11_left (C_X11_left E) P PX K (n + 1) 10 [l0, l1] [v0, v1, v2] (σ, sz, k, c) = (k + 0 ≤ 1 ∧ c + 0 ≤ 20 ∧ (sp_X11_isIn E) [v2, v1, v0] σ sz (fun v s2 z2 => zk_run E (zk_VT E) M_X11_left (C_X11_left E) P PX K n 13 [l0, l1] (zk_psh v []) (s2, z2, k + 0, c + 0)) (fun X s2 z2 => PX X s2 z2))) ∧
  (∀ (n : Nat) (l0 l1 : Option Value) (x : Int32) (r : List Value) (σ : zk_S) (sz k c : Nat), zk_run E (zk_VT E) M_X11_left (C_X11_left E) P PX K (n + 1) 13 [l0, l1] (.int x :: r) (σ, sz, k, c) = ((¬ x = 0 → zk_run E (zk_VT E) M_X11_left (C_X11_left E) P PX K n 22 [l0, l1] r (σ, sz, k, c)) ∧ (¬ (¬ x = 0) → zk_run E (zk_VT E) M_X11_left (C_X11_left E) P PX K n 16 [l0, l1] r (σ, sz, k, c)))) ∧
  (∀ (n : Nat) (l1 : Option Value) (y0 : Value) (r : List Value) (σ : zk_S) (sz k c : Nat), zk_run E (zk_VT E) M_X11_left (C_X11_left E) P PX K (n + 1) 16 [some y0, l1] r (σ, sz, k, c) = (zk_isr y0 ∧ zk_run E (zk_VT E) M_X11_left (C_X11_left E) P PX K n 17 [some y0, l1] (y0 :: r) (σ, sz, k, c))) ∧
  (∀ (n : Nat) (l0 l1 : Option Value)  (r : List Value) (σ : zk_S) (sz k c : Nat), zk_run E (zk_VT E) M_X11_left (C_X11_left E) P PX K (n + 1) 17 [l0, l1] r (σ, sz, k, c) = zk_run E (zk_VT E) M_X11_left (C_X11_left E) P PX K n 18 [l0, l1] (.int (1) :: r) (σ, sz, k, c)) ∧
  (∀ (n : Nat) (l0 l1 : Option Value) (v0 : Value) (v1 : Value)  (σ : zk_S) (sz k c : Nat), zk_run E (zk_VT E) M_X11_left (C_X11_left E) P PX K (n + 1) 18 [l0, l1] [v0, v1] (σ, sz, k, c) = (k + 0 ≤ 1 ∧ c + 0 ≤ 20 ∧ (zk_rv (zk_VT E) (fun ci => Nat.beq ci 10) (sp_X11_no E)) [v1, v0] σ sz (fun v s2 z2 => zk_run E (zk_VT E) M_X11_left (C_X11_left E) P PX K n 21 [l0, l1] (zk_psh v []) (s2, z2, k + 0, c + 0)) (fun X s2 z2 => PX X s2 z2))) ∧
  (∀ (n : Nat) (l0 l1 : Option Value) (x : Int32)  (σ : zk_S) (sz k c : Nat), zk_run E (zk_VT E) M_X11_left (C_X11_left E) P PX K (n + 1) 21 [l0, l1] [.int x] (σ, sz, k, c) = (zk_nok (some (.int)) x ∧ P (some (.int x)) σ sz ∧ k ≤ 1 ∧ c ≤ 20)) ∧
  (∀ (n : Nat) (l1 : Option Value) (y0 : Value) (r : List Value) (σ : zk_S) (sz k c : Nat), zk_run E (zk_VT E) M_X11_left (C_X11_left E) P PX K (n + 1) 22 [some y0, l1] r (σ, sz, k, c) = (zk_isr y0 ∧ zk_run E (zk_VT E) M_X11_left (C_X11_left E) P PX K n 23 [some y0, l1] (y0 :: r) (σ, sz, k, c))) ∧
  (∀ (n : Nat) (l0 l1 : Option Value) (v0 : Value)  (σ : zk_S) (sz k c : Nat), zk_run E (zk_VT E) M_X11_left (C_X11_left E) P PX K (n + 1) 23 [l0, l1] [v0] (σ, sz, k, c) = (k + 0 ≤ 1 ∧ c + 0 ≤ 20 ∧ (zk_rv (zk_VT E) (fun ci => Nat.beq ci 10) (sp_X11_solve E)) [v0] σ sz (fun v s2 z2 => zk_run E (zk_VT E) M_X11_left (C_X11_left E) P PX K n 26 [l0, l1] (zk_psh v []) (s2, z2, k + 0, c + 0)) (fun X s2 z2 => PX X s2 z2))) ∧
  (∀ (n : Nat) (l1 : Option Value) (y0 : Value) (r : List Value) (σ : zk_S) (sz k c : Nat), zk_run E (zk_VT E) M_X11_left (C_X11_left E) P PX K (n + 1) 26 [some y0, l1] r (σ, sz, k, c) = (zk_isr y0 ∧ zk_run E (zk_VT E) M_X11_left (C_X11_left E) P PX K n 27 [some y0, l1] (y0 :: r) (σ, sz, k, c))) ∧
  (∀ (n : Nat) (l0 : Option Value) (y1 : Int32) (r : List Value) (σ : zk_S) (sz k c : Nat), zk_run E (zk_VT E) M_X11_left (C_X11_left E) P PX K (n + 1) 27 [l0, some (.int y1)] r (σ, sz, k, c) = zk_run E (zk_VT E) M_X11_left (C_X11_left E) P PX K n 28 [l0, some (.int y1)] (.int y1 :: r) (σ, sz, k, c)) ∧
  (∀ (n : Nat) (l0 l1 : Option Value) (v0 : Value) (v1 : Value)  (σ : zk_S) (sz k c : Nat), zk_run E (zk_VT E) M_X11_left (C_X11_left E) P PX K (n + 1) 28 [l0, l1] [v0, v1] (σ, sz, k, c) = (k + 1 ≤ 1 ∧ c + 20 ≤ 20 ∧ (zk_rv (zk_VT E) (fun ci => Nat.beq ci 10) (sp_X11_leftNow E)) [v1, v0] σ sz (fun v s2 z2 => zk_run E (zk_VT E) M_X11_left (C_X11_left E) P PX K n 31 [l0, l1] (zk_psh v []) (s2, z2, k + 1, c + 20)) (fun X s2 z2 => PX X s2 z2))) ∧
  (∀ (n : Nat) (l0 l1 : Option Value) (x : Int32)  (σ : zk_S) (sz k c : Nat), zk_run E (zk_VT E) M_X11_left (C_X11_left E) P PX K (n + 1) 31 [l0, l1] [.int x] (σ, sz, k, c) = (zk_nok (some (.int)) x ∧ P (some (.int x)) σ sz ∧ k ≤ 1 ∧ c ≤ 20)) ∧
  (∀ (n : Nat) (l0 l1 : Option Value) (r : List Value) (w : zk_W zk_S), zk_go E (zk_VT E) M_X11_left (C_X11_left E) P PX K n 0 [l0, l1] r w = zk_run E (zk_VT E) M_X11_left (C_X11_left E) P PX K (n + 1) 0 [l0, l1] r w) := ⟨by intros; rfl, by intros; rfl, by intros; rfl, by intros; rfl, by intros; rfl, by intros; rfl, by intros; rfl, by intros; rfl, by intros; rfl, by intros; rfl, by intros; rfl, by intros; rfl, by intros; rfl, by intros; rfl, by intros; rfl, by intros; rfl, by intros; rfl, by intros; rfl, by intros; rfl⟩
theorem vc_X11_left (E : zk_E) : zk_VC E (zk_VT E) M_X11_left (C_X11_left E) 2 (sp_X11_left E) := by
  intro av σ sz P PX h
  obtain ⟨J, N, Q, O, U⟩ := σ
  unfold sp_X11_left at h
  split at h
  case h_2 => exact h.elim
  rename_i a0 n
  obtain ⟨rfl, h⟩ := h
  refine ⟨Nat.le_of_ble_eq_true rfl, fun G hG => ?_⟩
  change G 0 [some (.ref (zk_ad E 22)), some (.int n)] [] ((J, N, Q, O, U), sz, 0, 0)
  try dsimp only at h
  obtain ⟨hmi, hsz, h1, h2⟩ := h
  cases q : m_isIn n 0 999 with
  | false =>
    (refine hG 900 _ _ _ _ ?_; simp only [r_X11_left, zk_kl_none, zk_kl_int, zk_kl_ref, zk_kl_null, zk_kl_long, zk_kl_rf, zk_isr_ref, zk_isr_null, zk_isr_rf9, zk_c1_int, zk_c1_ref, zk_c1_null, zk_c1_rf, zk_psh_some, zk_psh_none, zk_nok_int, zk_nok_bool0, zk_nok_bool1, zk_nok_b, zk_fok_0, zk_fok_1, zk_fok_2, zk_fok_n, zk_fok_rf, zb_f, zb_p, zb_i, zb_a, zb_s, zk_nth_0, zk_nth_s, zk_fld_o, zk_put_o, zk_rv_eq, zk_ri_eq, zk_is_o, List.mem_cons, List.not_mem_nil, or_false, false_or, or_true, true_or, and_true, true_and, not_false_iff, not_true_eq_false, true_implies, false_implies, imp_self, implies_true, forall_const, zk_lit, zk_uj_ap, zk_un_ap, zk_un_un, zk_uj_uj, Nat.reduceEqDiff, eq_self, zk_bq, Bool.true_or, Bool.false_or, Nat.le_refl, Nat.zero_add, Nat.add_zero, Nat.reduceAdd, Nat.reduceLeDiff, Nat.le_zero_eq, and_self, and_false, false_and, ite_true, ite_false, Nat.zero_le, List.length_cons, List.length_nil, Option.some.injEq, forall_eq', reduceCtorEq, spe_X11_isIn, q, zk_b0, spe_X11_no])
    exact h1 q _ _ _ _ (QE.thr J N 1) (fun _ _ => rfl) (Nat.le_refl _)
  | true =>
    obtain ⟨t, ht, rfl⟩ := m_isIn_999 q
    (refine hG 900 _ _ _ _ ?_; simp only [r_X11_left, zk_kl_none, zk_kl_int, zk_kl_ref, zk_kl_null, zk_kl_long, zk_kl_rf, zk_isr_ref, zk_isr_null, zk_isr_rf9, zk_c1_int, zk_c1_ref, zk_c1_null, zk_c1_rf, zk_psh_some, zk_psh_none, zk_nok_int, zk_nok_bool0, zk_nok_bool1, zk_nok_b, zk_fok_0, zk_fok_1, zk_fok_2, zk_fok_n, zk_fok_rf, zb_f, zb_p, zb_i, zb_a, zb_s, zk_nth_0, zk_nth_s, zk_fld_o, zk_put_o, zk_rv_eq, zk_ri_eq, zk_is_o, List.mem_cons, List.not_mem_nil, or_false, false_or, or_true, true_or, and_true, true_and, not_false_iff, not_true_eq_false, true_implies, false_implies, imp_self, implies_true, forall_const, zk_lit, zk_uj_ap, zk_un_ap, zk_un_un, zk_uj_uj, Nat.reduceEqDiff, eq_self, zk_bq, Bool.true_or, Bool.false_or, Nat.le_refl, Nat.zero_add, Nat.add_zero, Nat.reduceAdd, Nat.reduceLeDiff, Nat.le_zero_eq, and_self, and_false, false_and, ite_true, ite_false, Nat.zero_le, List.length_cons, List.length_nil, Option.some.injEq, forall_eq', reduceCtorEq, spe_X11_isIn, q, zk_b0, Bool.true_eq_false, spe_X11_solve])
    refine ⟨hmi.thr 0, fun J2 N2 hso => ?_⟩
    have qe := (QE.thr J N 0).so hso
    have hsv := hso.sv
    simp only [r_X11_left, zk_kl_none, zk_kl_int, zk_kl_ref, zk_kl_null, zk_kl_long, zk_kl_rf, zk_isr_ref, zk_isr_null, zk_isr_rf9, zk_c1_int, zk_c1_ref, zk_c1_null, zk_c1_rf, zk_psh_some, zk_psh_none, zk_nok_int, zk_nok_bool0, zk_nok_bool1, zk_nok_b, zk_fok_0, zk_fok_1, zk_fok_2, zk_fok_n, zk_fok_rf, zb_f, zb_p, zb_i, zb_a, zb_s, zk_nth_0, zk_nth_s, zk_fld_o, zk_put_o, zk_rv_eq, zk_ri_eq, zk_is_o, List.mem_cons, List.not_mem_nil, or_false, false_or, or_true, true_or, and_true, true_and, not_false_iff, not_true_eq_false, true_implies, false_implies, imp_self, implies_true, forall_const, zk_lit, zk_uj_ap, zk_un_ap, zk_un_un, zk_uj_uj, Nat.reduceEqDiff, eq_self, zk_bq, Bool.true_or, Bool.false_or, Nat.le_refl, Nat.zero_add, Nat.add_zero, Nat.reduceAdd, Nat.reduceLeDiff, Nat.le_zero_eq, and_self, and_false, false_and, ite_true, ite_false, Nat.zero_le, List.length_cons, List.length_nil, Option.some.injEq, forall_eq', reduceCtorEq, spe_X11_leftNow]
    refine ⟨qe.es.mi hmi, hsv, hsz, ⟨t, ht, rfl⟩, fun A O2 hO => ?_⟩
    rw [qe.es.a9]
    exact h2 q _ _ _ _ (qe.un (by decide)) hO (Nat.le_succ _)
theorem ct_X11_left {l : Launch} (hl : l.stackTraces = false) (E : zk_E) : zk_C l E (zk_VT E) yX11_left cX11_left 2 (some (.int)) rm_X11_left (sp_X11_left E) := by
  refine zk_meth (M := M_X11_left) (C := C_X11_left E) hl (by decide +kernel) rfl (fun _ _ => rfl) (zk_VT_ok E) MO_X11_left TO_X11_left THo_X11_left ?_ (vc_X11_left E)
  exact fun p e s m args below meth c X pc n mc ms sp2 h => by
    have h2 := zk_lka_mem h
    simp only [List.mem_cons, List.not_mem_nil, or_false, Prod.mk.injEq] at h2
    rcases h2 with ⟨rfl, rfl, rfl, rfl, rfl⟩ | ⟨rfl, rfl, rfl, rfl, rfl⟩ | ⟨rfl, rfl, rfl, rfl, rfl⟩ | ⟨rfl, rfl, rfl, rfl, rfl⟩
    · exact zk_coS (idx := 111) X (ct_X11_isIn hl E) (List.forall_mem_cons.mpr ⟨zk_wi 1105 (by decide +kernel) rfl, List.forall_mem_cons.mpr ⟨zk_wi 1106 (by decide +kernel) rfl, List.forall_mem_cons.mpr ⟨zk_wi 6 (by decide +kernel) rfl, List.forall_mem_cons.mpr ⟨zk_wi 1107 (by decide +kernel) rfl, fun _ h => absurd h List.not_mem_nil⟩⟩⟩⟩) (by decide +kernel) ⟨by decide, by decide, by decide +kernel⟩ ⟨by decide, by decide⟩
    · exact zk_coV (idx := 130) X (ct_X11_no hl E) (List.forall_mem_cons.mpr ⟨zk_wi 1108 (by decide +kernel) rfl, List.forall_mem_cons.mpr ⟨zk_wi 1110 (by decide +kernel) rfl, List.forall_mem_cons.mpr ⟨zk_wp 11 (by decide +kernel) rfl, List.forall_mem_cons.mpr ⟨zk_wi 6 (by decide +kernel) rfl, List.forall_mem_cons.mpr ⟨zk_wi 1111 (by decide +kernel) rfl, fun _ h => absurd h List.not_mem_nil⟩⟩⟩⟩⟩) (fun ci h => by
      have h := Nat.eq_of_beq_eq_true h
      subst h
      exact ⟨_, _, rfl⟩) (by decide +kernel) ⟨by decide, by decide, by decide +kernel⟩ ⟨by decide, by decide⟩
    · exact zk_coV (idx := 227) X (ct_X11_solve hl E) (List.forall_mem_cons.mpr ⟨zk_wi 1227 (by decide +kernel) rfl, List.forall_mem_cons.mpr ⟨zk_wi 1229 (by decide +kernel) rfl, List.forall_mem_cons.mpr ⟨zk_wp 24 (by decide +kernel) rfl, List.forall_mem_cons.mpr ⟨zk_wi 6 (by decide +kernel) rfl, List.forall_mem_cons.mpr ⟨zk_wi 1230 (by decide +kernel) rfl, fun _ h => absurd h List.not_mem_nil⟩⟩⟩⟩⟩) (fun ci h => by
      have h := Nat.eq_of_beq_eq_true h
      subst h
      exact ⟨_, _, rfl⟩) (by decide +kernel) ⟨by decide, by decide, by decide +kernel⟩ ⟨by decide, by decide⟩
    · exact zk_coV (idx := 269) X (ct_X11_leftNow hl E) (List.forall_mem_cons.mpr ⟨zk_wi 1353 (by decide +kernel) rfl, List.forall_mem_cons.mpr ⟨zk_wi 1355 (by decide +kernel) rfl, List.forall_mem_cons.mpr ⟨zk_wp 46 (by decide +kernel) rfl, List.forall_mem_cons.mpr ⟨zk_wi 6 (by decide +kernel) rfl, List.forall_mem_cons.mpr ⟨zk_wi 1356 (by decide +kernel) rfl, fun _ h => absurd h List.not_mem_nil⟩⟩⟩⟩⟩) (fun ci h => by
      have h := Nat.eq_of_beq_eq_true h
      subst h
      exact ⟨_, _, rfl⟩) (by decide +kernel) ⟨by decide, by decide, by decide +kernel⟩ ⟨by decide, by decide⟩
def sp_X11_inRoom (E : zk_E) : zk_Sp zk_S := fun av σ sz P PX => match av with
  | [.ref a, .int r, .int n] => a = zk_ad E 22 ∧ MI σ.1 σ.2.1 ∧ E.1 + 55 ≤ sz ∧ RD σ.1 σ.2.1 r (fun j => (m_isIn n 0 999 = false → ZQ σ sz 2 (some (.int 0)) P) ∧ (m_isIn n 0 999 = true → ZQ σ sz 0 (some (.int (a_inR σ.1 σ.2.1 n.toNatClampNeg j))) P)) (ZQ σ sz 1 (some (.int 0)) P)
  | _ => False
theorem spe_X11_inRoom (E : zk_E) (a : Nat) (r : Int32) (n : Int32) (σ : zk_S) (sz : Nat) (P : zk_P zk_S) (PX : zk_X zk_S) : sp_X11_inRoom E [.ref a, .int r, .int n] σ sz P PX = (a = zk_ad E 22 ∧ MI σ.1 σ.2.1 ∧ E.1 + 55 ≤ sz ∧ RD σ.1 σ.2.1 r (fun j => (m_isIn n 0 999 = false → ZQ σ sz 2 (some (.int 0)) P) ∧ (m_isIn n 0 999 = true → ZQ σ sz 0 (some (.int (a_inR σ.1 σ.2.1 n.toNatClampNeg j))) P)) (ZQ σ sz 1 (some (.int 0)) P)) := propext Iff.rfl
def C_X11_inRoom (E : zk_E) : zk_Cl zk_S := zk_lka [(7, 2, 0, 0, zk_rv (zk_VT E) (fun ci => Nat.beq ci 10) (sp_X11_isRoom E)), (15, 2, 0, 0, zk_rv (zk_VT E) (fun ci => Nat.beq ci 10) (sp_X11_no E)), (24, 3, 0, 0, sp_X11_isIn E), (32, 2, 0, 0, zk_rv (zk_VT E) (fun ci => Nat.beq ci 10) (sp_X11_no E)), (37, 1, 0, 0, zk_rv (zk_VT E) (fun ci => Nat.beq ci 10) (sp_X11_solve E)), (42, 2, 1, 20, zk_rv (zk_VT E) (fun ci => Nat.beq ci 10) (sp_X11_behind E))]
theorem r_X11_inRoom (E : zk_E) (P : zk_P zk_S) (PX : zk_X zk_S) (K : Nat → zk_L → List Value → zk_W zk_S → Prop) : (∀ (n : Nat) (l1 l2 : Option Value) (y0 : Value) (r : List Value) (σ : zk_S) (sz k c : Nat), zk_run E (zk_VT E) M_X11_inRoom (C_X11_inRoom E) P PX K (n + 1) 0 [some y0, l1, l2] r (σ, sz, k, c) = (zk_isr y0 ∧ zk_run E (zk_VT E) M_X11_inRoom (C_X11_inRoom E) P PX K n 1 [some y0, l1, l2] (y0 :: r) (σ, sz, k, c))) ∧
  (∀ (n : Nat) (l0 l1 l2 : Option Value)  (r : List Value) (σ : zk_S) (sz k c : Nat), zk_run E (zk_VT E) M_X11_inRoom (C_X11_inRoom E) P PX K (n + 1) 1 [l0, l1, l2] r (σ, sz, k, c) = zk_run E (zk_VT E) M_X11_inRoom (C_X11_inRoom E) P PX K n 2 [l0, l1, l2] (.int (0) :: r) (σ, sz, k, c)) ∧
  (∀ (n : Nat) (l0 l1 l2 : Option Value) (a : Nat) (v : Value) (r : List Value) (σ : zk_S) (sz k c : Nat), zk_run E (zk_VT E) M_X11_inRoom (C_X11_inRoom E) P PX K (n + 1) 2 [l0, l1, l2] (v :: .ref a :: r) (σ, sz, k, c) = zk_put (zk_view E σ a) [10] 0 0 v (zk_pfok E σ a 0 v ∧ zk_run E (zk_VT E) M_X11_inRoom (C_X11_inRoom E) P PX K n 5 [l0, l1, l2] r (zk_pf E σ a 0 v, sz, k, c))) ∧
  (∀ (n : Nat) (l1 l2 : Option Value) (y0 : Value) (r : List Value) (σ : zk_S) (sz k c : Nat), zk_run E (zk_VT E) M_X11_inRoom (C_X11_inRoom E) P PX K (n + 1) 5 [some y0, l1, l2] r (σ, sz, k, c) = (zk_isr y0 ∧ zk_run E (zk_VT E) M_X11_inRoom (C_X11_inRoom E) P PX K n 6 [some y0, l1, l2] (y0 :: r) (σ, sz, k, c))) ∧
  (∀ (n : Nat) (l0 l2 : Option Value) (y1 : Int32) (r : List Value) (σ : zk_S) (sz k c : Nat), zk_run E (zk_VT E) M_X11_inRoom (C_X11_inRoom E) P PX K (n + 1) 6 [l0, some (.int y1), l2] r (σ, sz, k, c) = zk_run E (zk_VT E) M_X11_inRoom (C_X11_inRoom E) P PX K n 7 [l0, some (.int y1), l2] (.int y1 :: r) (σ, sz, k, c)) ∧
  (∀ (n : Nat) (l0 l1 l2 : Option Value) (v0 : Value) (v1 : Value)  (σ : zk_S) (sz k c : Nat), zk_run E (zk_VT E) M_X11_inRoom (C_X11_inRoom E) P PX K (n + 1) 7 [l0, l1, l2] [v0, v1] (σ, sz, k, c) = (k + 0 ≤ 1 ∧ c + 0 ≤ 20 ∧ (zk_rv (zk_VT E) (fun ci => Nat.beq ci 10) (sp_X11_isRoom E)) [v1, v0] σ sz (fun v s2 z2 => zk_run E (zk_VT E) M_X11_inRoom (C_X11_inRoom E) P PX K n 10 [l0, l1, l2] (zk_psh v []) (s2, z2, k + 0, c + 0)) (fun X s2 z2 => PX X s2 z2))) ∧
  (∀ (n : Nat) (l0 l1 l2 : Option Value) (x : Int32) (r : List Value) (σ : zk_S) (sz k c : Nat), zk_run E (zk_VT E) M_X11_inRoom (C_X11_inRoom E) P PX K (n + 1) 10 [l0, l1, l2] (.int x :: r) (σ, sz, k, c) = ((¬ x = 0 → zk_run E (zk_VT E) M_X11_inRoom (C_X11_inRoom E) P PX K n 19 [l0, l1, l2] r (σ, sz, k, c)) ∧ (¬ (¬ x = 0) → zk_run E (zk_VT E) M_X11_inRoom (C_X11_inRoom E) P PX K n 13 [l0, l1, l2] r (σ, sz, k, c)))) ∧
  (∀ (n : Nat) (l1 l2 : Option Value) (y0 : Value) (r : List Value) (σ : zk_S) (sz k c : Nat), zk_run E (zk_VT E) M_X11_inRoom (C_X11_inRoom E) P PX K (n + 1) 13 [some y0, l1, l2] r (σ, sz, k, c) = (zk_isr y0 ∧ zk_run E (zk_VT E) M_X11_inRoom (C_X11_inRoom E) P PX K n 14 [some y0, l1, l2] (y0 :: r) (σ, sz, k, c))) ∧
  (∀ (n : Nat) (l0 l1 l2 : Option Value)  (r : List Value) (σ : zk_S) (sz k c : Nat), zk_run E (zk_VT E) M_X11_inRoom (C_X11_inRoom E) P PX K (n + 1) 14 [l0, l1, l2] r (σ, sz, k, c) = zk_run E (zk_VT E) M_X11_inRoom (C_X11_inRoom E) P PX K n 15 [l0, l1, l2] (.int (1) :: r) (σ, sz, k, c)) ∧
  (∀ (n : Nat) (l0 l1 l2 : Option Value) (v0 : Value) (v1 : Value)  (σ : zk_S) (sz k c : Nat), zk_run E (zk_VT E) M_X11_inRoom (C_X11_inRoom E) P PX K (n + 1) 15 [l0, l1, l2] [v0, v1] (σ, sz, k, c) = (k + 0 ≤ 1 ∧ c + 0 ≤ 20 ∧ (zk_rv (zk_VT E) (fun ci => Nat.beq ci 10) (sp_X11_no E)) [v1, v0] σ sz (fun v s2 z2 => zk_run E (zk_VT E) M_X11_inRoom (C_X11_inRoom E) P PX K n 18 [l0, l1, l2] (zk_psh v []) (s2, z2, k + 0, c + 0)) (fun X s2 z2 => PX X s2 z2))) ∧
  (∀ (n : Nat) (l0 l1 l2 : Option Value) (x : Int32)  (σ : zk_S) (sz k c : Nat), zk_run E (zk_VT E) M_X11_inRoom (C_X11_inRoom E) P PX K (n + 1) 18 [l0, l1, l2] [.int x] (σ, sz, k, c) = (zk_nok (some (.int)) x ∧ P (some (.int x)) σ sz ∧ k ≤ 1 ∧ c ≤ 20)) ∧
  (∀ (n : Nat) (l0 l1 : Option Value) (y2 : Int32) (r : List Value) (σ : zk_S) (sz k c : Nat), zk_run E (zk_VT E) M_X11_inRoom (C_X11_inRoom E) P PX K (n + 1) 19 [l0, l1, some (.int y2)] r (σ, sz, k, c) = zk_run E (zk_VT E) M_X11_inRoom (C_X11_inRoom E) P PX K n 20 [l0, l1, some (.int y2)] (.int y2 :: r) (σ, sz, k, c)) ∧
  (∀ (n : Nat) (l0 l1 l2 : Option Value)  (r : List Value) (σ : zk_S) (sz k c : Nat), zk_run E (zk_VT E) M_X11_inRoom (C_X11_inRoom E) P PX K (n + 1) 20 [l0, l1, l2] r (σ, sz, k, c) = zk_run E (zk_VT E) M_X11_inRoom (C_X11_inRoom E) P PX K n 21 [l0, l1, l2] (.int (0) :: r) (σ, sz, k, c)) ∧
  (∀ (n : Nat) (l0 l1 l2 : Option Value)  (r : List Value) (σ : zk_S) (sz k c : Nat), zk_run E (zk_VT E) M_X11_inRoom (C_X11_inRoom E) P PX K (n + 1) 21 [l0, l1, l2] r (σ, sz, k, c) = zk_run E (zk_VT E) M_X11_inRoom (C_X11_inRoom E) P PX K n 24 [l0, l1, l2] (.int (999) :: r) (σ, sz, k, c)) ∧
  (∀ (n : Nat) (l0 l1 l2 : Option Value) (v0 : Value) (v1 : Value) (v2 : Value)  (σ : zk_S) (sz k c : Nat), zk_run E (zk_VT E) M_X11_inRoom (C_X11_inRoom E) P PX K (n + 1) 24 [l0, l1, l2] [v0, v1, v2] (σ, sz, k, c) = (k + 0 ≤ 1 ∧ c + 0 ≤ 20 ∧ (sp_X11_isIn E) [v2, v1, v0] σ sz (fun v s2 z2 => zk_run E (zk_VT E) M_X11_inRoom (C_X11_inRoom E) P PX K n 27 [l0, l1, l2] (zk_psh v []) (s2, z2, k + 0, c + 0)) (fun X s2 z2 => PX X s2 z2))) ∧
  (∀ (n : Nat) (l0 l1 l2 : Option Value) (x : Int32) (r : List Value) (σ : zk_S) (sz k c : Nat), zk_run E (zk_VT E) M_X11_inRoom (C_X11_inRoom E) P PX K (n + 1) 27 [l0, l1, l2] (.int x :: r) (σ, sz, k, c) = ((¬ x = 0 → zk_run E (zk_VT E) M_X11_inRoom (C_X11_inRoom E) P PX K n 36 [l0, l1, l2] r (σ, sz, k, c)) ∧ (¬ (¬ x = 0) → zk_run E (zk_VT E) M_X11_inRoom (C_X11_inRoom E) P PX K n 30 [l0, l1, l2] r (σ, sz, k, c)))) ∧
  (∀ (n : Nat) (l1 l2 : Option Value) (y0 : Value) (r : List Value) (σ : zk_S) (sz k c : Nat), zk_run E (zk_VT E) M_X11_inRoom (C_X11_inRoom E) P PX K (n + 1) 30 [some y0, l1, l2] r (σ, sz, k, c) = (zk_isr y0 ∧ zk_run E (zk_VT E) M_X11_inRoom (C_X11_inRoom E) P PX K n 31 [some y0, l1, l2] (y0 :: r) (σ, sz, k, c))) ∧
  (∀ (n : Nat) (l0 l1 l2 : Option Value)  (r : List Value) (σ : zk_S) (sz k c : Nat), zk_run E (zk_VT E) M_X11_inRoom (C_X11_inRoom E) P PX K (n + 1) 31 [l0, l1, l2] r (σ, sz, k, c) = zk_run E (zk_VT E) M_X11_inRoom (C_X11_inRoom E) P PX K n 32 [l0, l1, l2] (.int (2) :: r) (σ, sz, k, c)) ∧
  (∀ (n : Nat) (l0 l1 l2 : Option Value) (v0 : Value) (v1 : Value)  (σ : zk_S) (sz k c : Nat), zk_run E (zk_VT E) M_X11_inRoom (C_X11_inRoom E) P PX K (n + 1) 32 [l0, l1, l2] [v0, v1] (σ, sz, k, c) = (k + 0 ≤ 1 ∧ c + 0 ≤ 20 ∧ (zk_rv (zk_VT E) (fun ci => Nat.beq ci 10) (sp_X11_no E)) [v1, v0] σ sz (fun v s2 z2 => zk_run E (zk_VT E) M_X11_inRoom (C_X11_inRoom E) P PX K n 35 [l0, l1, l2] (zk_psh v []) (s2, z2, k + 0, c + 0)) (fun X s2 z2 => PX X s2 z2))) ∧
  (∀ (n : Nat) (l0 l1 l2 : Option Value) (x : Int32)  (σ : zk_S) (sz k c : Nat), zk_run E (zk_VT E) M_X11_inRoom (C_X11_inRoom E) P PX K (n + 1) 35 [l0, l1, l2] [.int x] (σ, sz, k, c) = (zk_nok (some (.int)) x ∧ P (some (.int x)) σ sz ∧ k ≤ 1 ∧ c ≤ 20)) ∧
  (∀ (n : Nat) (l1 l2 : Option Value) (y0 : Value) (r : List Value) (σ : zk_S) (sz k c : Nat), zk_run E (zk_VT E) M_X11_inRoom (C_X11_inRoom E) P PX K (n + 1) 36 [some y0, l1, l2] r (σ, sz, k, c) = (zk_isr y0 ∧ zk_run E (zk_VT E) M_X11_inRoom (C_X11_inRoom E) P PX K n 37 [some y0, l1, l2] (y0 :: r) (σ, sz, k, c))) ∧
  (∀ (n : Nat) (l0 l1 l2 : Option Value) (v0 : Value)  (σ : zk_S) (sz k c : Nat), zk_run E (zk_VT E) M_X11_inRoom (C_X11_inRoom E) P PX K (n + 1) 37 [l0, l1, l2] [v0] (σ, sz, k, c) = (k + 0 ≤ 1 ∧ c + 0 ≤ 20 ∧ (zk_rv (zk_VT E) (fun ci => Nat.beq ci 10) (sp_X11_solve E)) [v0] σ sz (fun v s2 z2 => zk_run E (zk_VT E) M_X11_inRoom (C_X11_inRoom E) P PX K n 40 [l0, l1, l2] (zk_psh v []) (s2, z2, k + 0, c + 0)) (fun X s2 z2 => PX X s2 z2))) ∧
  (∀ (n : Nat) (l1 l2 : Option Value) (y0 : Value) (r : List Value) (σ : zk_S) (sz k c : Nat), zk_run E (zk_VT E) M_X11_inRoom (C_X11_inRoom E) P PX K (n + 1) 40 [some y0, l1, l2] r (σ, sz, k, c) = (zk_isr y0 ∧ zk_run E (zk_VT E) M_X11_inRoom (C_X11_inRoom E) P PX K n 41 [some y0, l1, l2] (y0 :: r) (σ, sz, k, c))) ∧
  (∀ (n : Nat) (l0 l1 : Option Value) (y2 : Int32) (r : List Value) (σ : zk_S) (sz k c : Nat), zk_run E (zk_VT E) M_X11_inRoom (C_X11_inRoom E) P PX K (n + 1) 41 [l0, l1, some (.int y2)] r (σ, sz, k, c) = zk_run E (zk_VT E) M_X11_inRoom (C_X11_inRoom E) P PX K n 42 [l0, l1, some (.int y2)] (.int y2 :: r) (σ, sz, k, c)) ∧
  (∀ (n : Nat) (l0 l1 l2 : Option Value) (v0 : Value) (v1 : Value)  (σ : zk_S) (sz k c : Nat), zk_run E (zk_VT E) M_X11_inRoom (C_X11_inRoom E) P PX K (n + 1) 42 [l0, l1, l2] [v0, v1] (σ, sz, k, c) = (k + 1 ≤ 1 ∧ c + 20 ≤ 20 ∧ (zk_rv (zk_VT E) (fun ci => Nat.beq ci 10) (sp_X11_behind E)) [v1, v0] σ sz (fun v s2 z2 => zk_run E (zk_VT E) M_X11_inRoom (C_X11_inRoom E) P PX K n 45 [l0, l1, l2] (zk_psh v []) (s2, z2, k + 1, c + 20)) (fun X s2 z2 => PX X s2 z2))) ∧
  (∀ (n : Nat) (l0 l2 : Option Value) (y1 : Int32) (r : List Value) (σ : zk_S) (sz k c : Nat), zk_run E (zk_VT E) M_X11_inRoom (C_X11_inRoom E) P PX K (n + 1) 45 [l0, some (.int y1), l2] r (σ, sz, k, c) = zk_run E (zk_VT E) M_X11_inRoom (C_X11_inRoom E) P PX K n 46 [l0, some (.int y1), l2] (.int y1 :: r) (σ, sz, k, c)) ∧
  (∀ (n : Nat) (l0 l1 l2 : Option Value) (a : Nat) (i : Int32) (r : List Value) (σ : zk_S) (sz k c : Nat), zk_run E (zk_VT E) M_X11_inRoom (C_X11_inRoom E) P PX K (n + 1) 46 [l0, l1, l2] (.int i :: .ref a :: r) (σ, sz, k, c) = zk_ild (zk_view E σ a) (zk_ar E 0) i (fun x => zk_run E (zk_VT E) M_X11_inRoom (C_X11_inRoom E) P PX K n 47 [l0, l1, l2] (.int x :: r) (σ, sz, k, c))) ∧
  (∀ (n : Nat) (l0 l1 l2 : Option Value) (x : Int32)  (σ : zk_S) (sz k c : Nat), zk_run E (zk_VT E) M_X11_inRoom (C_X11_inRoom E) P PX K (n + 1) 47 [l0, l1, l2] [.int x] (σ, sz, k, c) = (zk_nok (some (.int)) x ∧ P (some (.int x)) σ sz ∧ k ≤ 1 ∧ c ≤ 20)) ∧
  (∀ (n : Nat) (l0 l1 l2 : Option Value) (r : List Value) (w : zk_W zk_S), zk_go E (zk_VT E) M_X11_inRoom (C_X11_inRoom E) P PX K n 0 [l0, l1, l2] r w = zk_run E (zk_VT E) M_X11_inRoom (C_X11_inRoom E) P PX K (n + 1) 0 [l0, l1, l2] r w) := ⟨by intros; rfl, by intros; rfl, by intros; rfl, by intros; rfl, by intros; rfl, by intros; rfl, by intros; rfl, by intros; rfl, by intros; rfl, by intros; rfl, by intros; rfl, by intros; rfl, by intros; rfl, by intros; rfl, by intros; rfl, by intros; rfl, by intros; rfl, by intros; rfl, by intros; rfl, by intros; rfl, by intros; rfl, by intros; rfl, by intros; rfl, by intros; rfl, by intros; rfl, by intros; rfl, by intros; rfl, by intros; rfl, by intros; rfl⟩
theorem vc_X11_inRoom (E : zk_E) : zk_VC E (zk_VT E) M_X11_inRoom (C_X11_inRoom E) 3 (sp_X11_inRoom E) := by
  intro av σ sz P PX h
  obtain ⟨J, N, Q, O, U⟩ := σ
  unfold sp_X11_inRoom at h
  split at h
  case h_2 => exact h.elim
  rename_i a0 r n
  obtain ⟨rfl, h⟩ := h
  refine ⟨Nat.le_of_ble_eq_true rfl, fun G hG => ?_⟩
  change G 0 [some (.ref (zk_ad E 22)), some (.int r), some (.int n)] [] ((J, N, Q, O, U), sz, 0, 0)
  try dsimp only at h
  obtain ⟨hmi, hsz, h⟩ := h
  have hms := hmi.1
  have hms0 := hms.thr 0
  rcases h with ⟨j, hj, rfl, h1, h2⟩ | ⟨hr, h⟩
  · have c1 := m_isRoom_t hms hj
    cases q : m_isIn n 0 999 with
    | false =>
      (refine hG 900 _ _ _ _ ?_; simp only [r_X11_inRoom, zk_kl_none, zk_kl_int, zk_kl_ref, zk_kl_null, zk_kl_long, zk_kl_rf, zk_isr_ref, zk_isr_null, zk_isr_rf9, zk_c1_int, zk_c1_ref, zk_c1_null, zk_c1_rf, zk_psh_some, zk_psh_none, zk_nok_int, zk_nok_bool0, zk_nok_bool1, zk_nok_b, zk_fok_0, zk_fok_1, zk_fok_2, zk_fok_n, zk_fok_rf, zb_f, zb_p, zb_i, zb_a, zb_s, zk_nth_0, zk_nth_s, zk_fld_o, zk_put_o, zk_rv_eq, zk_ri_eq, zk_is_o, List.mem_cons, List.not_mem_nil, or_false, false_or, or_true, true_or, and_true, true_and, not_false_iff, not_true_eq_false, true_implies, false_implies, imp_self, implies_true, forall_const, zk_lit, zk_uj_ap, zk_un_ap, zk_un_un, zk_uj_uj, Nat.reduceEqDiff, eq_self, zk_bq, Bool.true_or, Bool.false_or, Nat.le_refl, Nat.zero_add, Nat.add_zero, Nat.reduceAdd, Nat.reduceLeDiff, Nat.le_zero_eq, and_self, and_false, false_and, ite_true, ite_false, Nat.zero_le, List.length_cons, List.length_nil, Option.some.injEq, forall_eq', reduceCtorEq, spe_X11_isRoom, hms0, m_isRoom_thr, c1, spe_X11_isIn, q, zk_b0, spe_X11_no, Bool.true_eq_false])
      exact h1 q _ _ _ _ (QE.thr J N 2) (fun _ _ => rfl) (Nat.le_refl _)
    | true =>
      obtain ⟨t, ht, rfl⟩ := m_isIn_999 q
      (refine hG 900 _ _ _ _ ?_; simp only [r_X11_inRoom, zk_kl_none, zk_kl_int, zk_kl_ref, zk_kl_null, zk_kl_long, zk_kl_rf, zk_isr_ref, zk_isr_null, zk_isr_rf9, zk_c1_int, zk_c1_ref, zk_c1_null, zk_c1_rf, zk_psh_some, zk_psh_none, zk_nok_int, zk_nok_bool0, zk_nok_bool1, zk_nok_b, zk_fok_0, zk_fok_1, zk_fok_2, zk_fok_n, zk_fok_rf, zb_f, zb_p, zb_i, zb_a, zb_s, zk_nth_0, zk_nth_s, zk_fld_o, zk_put_o, zk_rv_eq, zk_ri_eq, zk_is_o, List.mem_cons, List.not_mem_nil, or_false, false_or, or_true, true_or, and_true, true_and, not_false_iff, not_true_eq_false, true_implies, false_implies, imp_self, implies_true, forall_const, zk_lit, zk_uj_ap, zk_un_ap, zk_un_un, zk_uj_uj, Nat.reduceEqDiff, eq_self, zk_bq, Bool.true_or, Bool.false_or, Nat.le_refl, Nat.zero_add, Nat.add_zero, Nat.reduceAdd, Nat.reduceLeDiff, Nat.le_zero_eq, and_self, and_false, false_and, ite_true, ite_false, Nat.zero_le, List.length_cons, List.length_nil, Option.some.injEq, forall_eq', reduceCtorEq, spe_X11_isRoom, hms0, m_isRoom_thr, c1, spe_X11_isIn, q, zk_b0, Bool.true_eq_false, spe_X11_solve])
      refine ⟨hmi.thr 0, fun J2 N2 hso => ?_⟩
      have qe := (QE.thr J N 0).so hso
      have hsv := hso.sv
      have hclt : (nI t).toNatClampNeg = t := n_cl (by omega)
      have hin : vp_in (nI j) 20 := n_in (hj.lt hmi) (by decide)
      have hcl := RD.lt hmi hj
      simp only [r_X11_inRoom, zk_kl_none, zk_kl_int, zk_kl_ref, zk_kl_null, zk_kl_long, zk_kl_rf, zk_isr_ref, zk_isr_null, zk_isr_rf9, zk_c1_int, zk_c1_ref, zk_c1_null, zk_c1_rf, zk_psh_some, zk_psh_none, zk_nok_int, zk_nok_bool0, zk_nok_bool1, zk_nok_b, zk_fok_0, zk_fok_1, zk_fok_2, zk_fok_n, zk_fok_rf, zb_f, zb_p, zb_i, zb_a, zb_s, zk_nth_0, zk_nth_s, zk_fld_o, zk_put_o, zk_rv_eq, zk_ri_eq, zk_is_o, List.mem_cons, List.not_mem_nil, or_false, false_or, or_true, true_or, and_true, true_and, not_false_iff, not_true_eq_false, true_implies, false_implies, imp_self, implies_true, forall_const, zk_lit, zk_uj_ap, zk_un_ap, zk_un_un, zk_uj_uj, Nat.reduceEqDiff, eq_self, zk_bq, Bool.true_or, Bool.false_or, Nat.le_refl, Nat.zero_add, Nat.add_zero, Nat.reduceAdd, Nat.reduceLeDiff, Nat.le_zero_eq, and_self, and_false, false_and, ite_true, ite_false, Nat.zero_le, List.length_cons, List.length_nil, Option.some.injEq, forall_eq', reduceCtorEq, spe_X11_behind]
      refine ⟨qe.es.mi hmi, hsv, hsz, ⟨t, ht, rfl⟩, fun A => ?_⟩
      rw [qe.es.beh, qe.es.gp, hclt]
      unfold t_arr
      simp only [r_X11_inRoom, zk_kl_none, zk_kl_int, zk_kl_ref, zk_kl_null, zk_kl_long, zk_kl_rf, zk_isr_ref, zk_isr_null, zk_isr_rf9, zk_c1_int, zk_c1_ref, zk_c1_null, zk_c1_rf, zk_psh_some, zk_psh_none, zk_nok_int, zk_nok_bool0, zk_nok_bool1, zk_nok_b, zk_fok_0, zk_fok_1, zk_fok_2, zk_fok_n, zk_fok_rf, zb_f, zb_p, zb_i, zb_a, zb_s, zk_nth_0, zk_nth_s, zk_fld_o, zk_put_o, zk_rv_eq, zk_ri_eq, zk_is_o, List.mem_cons, List.not_mem_nil, or_false, false_or, or_true, true_or, and_true, true_and, not_false_iff, not_true_eq_false, true_implies, false_implies, imp_self, implies_true, forall_const, zk_lit, zk_uj_ap, zk_un_ap, zk_un_un, zk_uj_uj, Nat.reduceEqDiff, eq_self, zk_bq, Bool.true_or, Bool.false_or, Nat.le_refl, Nat.zero_add, Nat.add_zero, Nat.reduceAdd, Nat.reduceLeDiff, Nat.le_zero_eq, and_self, and_false, false_and, ite_true, ite_false, Nat.zero_le, List.length_cons, List.length_nil, Option.some.injEq, forall_eq', reduceCtorEq, zk_vd hsz, zk_up_same, zk_ild_d, hin, hcl]
      have h3 := h2 q
      rw [hclt] at h3
      exact h3 _ _ _ _ (qe.un (by decide)) (fun q hq => zk_up_ne _ _ (by omega)) (Nat.le_succ _)
  · (refine hG 900 _ _ _ _ ?_; simp only [r_X11_inRoom, zk_kl_none, zk_kl_int, zk_kl_ref, zk_kl_null, zk_kl_long, zk_kl_rf, zk_isr_ref, zk_isr_null, zk_isr_rf9, zk_c1_int, zk_c1_ref, zk_c1_null, zk_c1_rf, zk_psh_some, zk_psh_none, zk_nok_int, zk_nok_bool0, zk_nok_bool1, zk_nok_b, zk_fok_0, zk_fok_1, zk_fok_2, zk_fok_n, zk_fok_rf, zb_f, zb_p, zb_i, zb_a, zb_s, zk_nth_0, zk_nth_s, zk_fld_o, zk_put_o, zk_rv_eq, zk_ri_eq, zk_is_o, List.mem_cons, List.not_mem_nil, or_false, false_or, or_true, true_or, and_true, true_and, not_false_iff, not_true_eq_false, true_implies, false_implies, imp_self, implies_true, forall_const, zk_lit, zk_uj_ap, zk_un_ap, zk_un_un, zk_uj_uj, Nat.reduceEqDiff, eq_self, zk_bq, Bool.true_or, Bool.false_or, Nat.le_refl, Nat.zero_add, Nat.add_zero, Nat.reduceAdd, Nat.reduceLeDiff, Nat.le_zero_eq, and_self, and_false, false_and, ite_true, ite_false, Nat.zero_le, List.length_cons, List.length_nil, Option.some.injEq, forall_eq', reduceCtorEq, spe_X11_isRoom, hms0, m_isRoom_thr, hr, zk_b0, spe_X11_no])
    exact h _ _ _ _ (QE.thr J N 1) (fun _ _ => rfl) (Nat.le_refl _)
theorem ct_X11_inRoom {l : Launch} (hl : l.stackTraces = false) (E : zk_E) : zk_C l E (zk_VT E) yX11_inRoom cX11_inRoom 3 (some (.int)) rm_X11_inRoom (sp_X11_inRoom E) := by
  refine zk_meth (M := M_X11_inRoom) (C := C_X11_inRoom E) hl (by decide +kernel) rfl (fun _ _ => rfl) (zk_VT_ok E) MO_X11_inRoom TO_X11_inRoom THo_X11_inRoom ?_ (vc_X11_inRoom E)
  exact fun p e s m args below meth c X pc n mc ms sp2 h => by
    have h2 := zk_lka_mem h
    simp only [List.mem_cons, List.not_mem_nil, or_false, Prod.mk.injEq] at h2
    rcases h2 with ⟨rfl, rfl, rfl, rfl, rfl⟩ | ⟨rfl, rfl, rfl, rfl, rfl⟩ | ⟨rfl, rfl, rfl, rfl, rfl⟩ | ⟨rfl, rfl, rfl, rfl, rfl⟩ | ⟨rfl, rfl, rfl, rfl, rfl⟩ | ⟨rfl, rfl, rfl, rfl, rfl⟩
    · exact zk_coV (idx := 137) X (ct_X11_isRoom hl E) (List.forall_mem_cons.mpr ⟨zk_wi 1122 (by decide +kernel) rfl, List.forall_mem_cons.mpr ⟨zk_wi 1124 (by decide +kernel) rfl, List.forall_mem_cons.mpr ⟨zk_wp 13 (by decide +kernel) rfl, List.forall_mem_cons.mpr ⟨zk_wi 6 (by decide +kernel) rfl, List.forall_mem_cons.mpr ⟨zk_wi 1125 (by decide +kernel) rfl, fun _ h => absurd h List.not_mem_nil⟩⟩⟩⟩⟩) (fun ci h => by
      have h := Nat.eq_of_beq_eq_true h
      subst h
      exact ⟨_, _, rfl⟩) (by decide +kernel) ⟨by decide, by decide, by decide +kernel⟩ ⟨by decide, by decide⟩
    · exact zk_coV (idx := 130) X (ct_X11_no hl E) (List.forall_mem_cons.mpr ⟨zk_wi 1108 (by decide +kernel) rfl, List.forall_mem_cons.mpr ⟨zk_wi 1110 (by decide +kernel) rfl, List.forall_mem_cons.mpr ⟨zk_wp 11 (by decide +kernel) rfl, List.forall_mem_cons.mpr ⟨zk_wi 6 (by decide +kernel) rfl, List.forall_mem_cons.mpr ⟨zk_wi 1111 (by decide +kernel) rfl, fun _ h => absurd h List.not_mem_nil⟩⟩⟩⟩⟩) (fun ci h => by
      have h := Nat.eq_of_beq_eq_true h
      subst h
      exact ⟨_, _, rfl⟩) (by decide +kernel) ⟨by decide, by decide, by decide +kernel⟩ ⟨by decide, by decide⟩
    · exact zk_coS (idx := 111) X (ct_X11_isIn hl E) (List.forall_mem_cons.mpr ⟨zk_wi 1105 (by decide +kernel) rfl, List.forall_mem_cons.mpr ⟨zk_wi 1106 (by decide +kernel) rfl, List.forall_mem_cons.mpr ⟨zk_wi 6 (by decide +kernel) rfl, List.forall_mem_cons.mpr ⟨zk_wi 1107 (by decide +kernel) rfl, fun _ h => absurd h List.not_mem_nil⟩⟩⟩⟩) (by decide +kernel) ⟨by decide, by decide, by decide +kernel⟩ ⟨by decide, by decide⟩
    · exact zk_coV (idx := 130) X (ct_X11_no hl E) (List.forall_mem_cons.mpr ⟨zk_wi 1108 (by decide +kernel) rfl, List.forall_mem_cons.mpr ⟨zk_wi 1110 (by decide +kernel) rfl, List.forall_mem_cons.mpr ⟨zk_wp 11 (by decide +kernel) rfl, List.forall_mem_cons.mpr ⟨zk_wi 6 (by decide +kernel) rfl, List.forall_mem_cons.mpr ⟨zk_wi 1111 (by decide +kernel) rfl, fun _ h => absurd h List.not_mem_nil⟩⟩⟩⟩⟩) (fun ci h => by
      have h := Nat.eq_of_beq_eq_true h
      subst h
      exact ⟨_, _, rfl⟩) (by decide +kernel) ⟨by decide, by decide, by decide +kernel⟩ ⟨by decide, by decide⟩
    · exact zk_coV (idx := 227) X (ct_X11_solve hl E) (List.forall_mem_cons.mpr ⟨zk_wi 1227 (by decide +kernel) rfl, List.forall_mem_cons.mpr ⟨zk_wi 1229 (by decide +kernel) rfl, List.forall_mem_cons.mpr ⟨zk_wp 24 (by decide +kernel) rfl, List.forall_mem_cons.mpr ⟨zk_wi 6 (by decide +kernel) rfl, List.forall_mem_cons.mpr ⟨zk_wi 1230 (by decide +kernel) rfl, fun _ h => absurd h List.not_mem_nil⟩⟩⟩⟩⟩) (fun ci h => by
      have h := Nat.eq_of_beq_eq_true h
      subst h
      exact ⟨_, _, rfl⟩) (by decide +kernel) ⟨by decide, by decide, by decide +kernel⟩ ⟨by decide, by decide⟩
    · exact zk_coV (idx := 265) X (ct_X11_behind hl E) (List.forall_mem_cons.mpr ⟨zk_wi 1357 (by decide +kernel) rfl, List.forall_mem_cons.mpr ⟨zk_wi 1359 (by decide +kernel) rfl, List.forall_mem_cons.mpr ⟨zk_wp 47 (by decide +kernel) rfl, List.forall_mem_cons.mpr ⟨zk_wi 6 (by decide +kernel) rfl, List.forall_mem_cons.mpr ⟨zk_wi 1360 (by decide +kernel) rfl, fun _ h => absurd h List.not_mem_nil⟩⟩⟩⟩⟩) (fun ci h => by
      have h := Nat.eq_of_beq_eq_true h
      subst h
      exact ⟨_, _, rfl⟩) (by decide +kernel) ⟨by decide, by decide, by decide +kernel⟩ ⟨by decide, by decide⟩

