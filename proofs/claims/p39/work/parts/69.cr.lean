/-! the class: doTick, goOn, ticksTillOut -/
theorem updN_same (f : Nat → Nat) (k : Nat) : updN f k (f k) = f := by
  funext j
  unfold updN
  split
  · next h => rw [h]
  · rfl
theorem t_step_0 {N : Nat → Nat → Int32} {l r : Nat} {f : Nat → Nat} : t_step N l r 0 f = f := by
  unfold t_step
  rw [Nat.sub_zero, updN_same]
  split
  · rfl
  · rw [Nat.add_zero, updN_same]
theorem t_mv_eq (J N : Nat → Nat → Int32) (g f : Nat → Nat) (n : Nat) : t_mv J N g f (n + 1) = t_step N (lea J N n) n (g n) (t_mv J N g f n) := by
  rw [t_mv]
  by_cases q : g n = 0
  · rw [if_pos q, q, t_step_0]
  · rw [if_neg q]
theorem t_tick_20 {J N : Nat → Nat → Int32} (hmi : MI J N) {door : Int32} {w : Nat} {f : Nat → Nat} : sumN (t_tick J N door w f) 20 ≤ sumN f 20 := t_tick_sum hmi
/-- in the course of a tick -/
theorem t_mv_20ok {J N : Nat → Nat → Int32} {door : Int32} {w : Nat} {f : Nat → Nat} (hmi : MI J N) : ∀ n, n ≤ 20 → sumN (t_mv J N (t_go J N door w f) f n) 20 ≤ sumN f 20 ∧ ∀ r, n ≤ r → f r ≤ t_mv J N (t_go J N door w f) f n r := by
  intro n hn
  by_cases h : n ≤ m_nr J
  · exact t_mv_ok hmi n h
  · have hsk := t_mv_skip (J := J) (N := N) (g := t_go J N door w f) (f := f) (n := m_nr J) (n - m_nr J) (fun i h1 h2 => by
      unfold t_go
      cases z : t_out J N i with
      | false => rfl
      | true => exact absurd (t_out_mr hmi (by omega) z).1 (by omega))
    rw [show m_nr J + (n - m_nr J) = n by omega] at hsk
    rw [hsk]
    obtain ⟨h1, h2⟩ := t_mv_ok (door := door) (w := w) (f := f) hmi (m_nr J) (Nat.le_refl _)
    exact ⟨h1, fun r hr => h2 r (by omega)⟩
def sp_X0_doTick (E : zk_E) : zk_Sp zk_S := fun av σ sz P PX => match av with
  | [.ref a, .ref p, .ref w] => a = zk_ad E 15 ∧ p = zk_ad E 1 ∧ w = zk_ad E 7 ∧ ∃ J N fl f door wn, MI J N ∧ XR E sz σ J N fl ∧ FLD J N fl door wn ∧ wn ≤ 6 ∧ WLv J N σ.2.1 ∧ WDp J N σ.2.1 ∧ WI σ.2.1 f ∧ sumN f 20 ≤ 4000 ∧ ∀ A B, (∀ i, i < 20 → A i = nI (t_tick J N door wn f i)) → P none (σ.1, zk_un (zk_un σ.2.1 17 B) 16 A, σ.2.2) sz
  | _ => False
theorem spe_X0_doTick (E : zk_E) (a : Nat) (p : Nat) (w : Nat) (σ : zk_S) (sz : Nat) (P : zk_P zk_S) (PX : zk_X zk_S) : sp_X0_doTick E [.ref a, .ref p, .ref w] σ sz P PX = (a = zk_ad E 15 ∧ p = zk_ad E 1 ∧ w = zk_ad E 7 ∧ ∃ J N fl f door wn, MI J N ∧ XR E sz σ J N fl ∧ FLD J N fl door wn ∧ wn ≤ 6 ∧ WLv J N σ.2.1 ∧ WDp J N σ.2.1 ∧ WI σ.2.1 f ∧ sumN f 20 ≤ 4000 ∧ ∀ A B, (∀ i, i < 20 → A i = nI (t_tick J N door wn f i)) → P none (σ.1, zk_un (zk_un σ.2.1 17 B) 16 A, σ.2.2) sz) := propext Iff.rfl
def C_X0_doTick (E : zk_E) : zk_Cl zk_S := zk_lka [(11, 3, 0, 0, sp_X0_exitToGo E), (62, 3, 0, 0, sp_X0_exitToGo E), (84, 2, 0, 0, zk_rv (zk_VT E) (fun ci => Nat.beq ci 1 || Nat.beq ci 6) (sp_X2_otherThan E))]
theorem r_X0_doTick (E : zk_E) (P : zk_P zk_S) (PX : zk_X zk_S) (K : Nat → zk_L → List Value → zk_W zk_S → Prop) : (∀ (n : Nat) (l0 l1 l2 l3 l4 l5 : Option Value)  (r : List Value) (σ : zk_S) (sz k c : Nat), zk_run E (zk_VT E) M_X0_doTick (C_X0_doTick E) P PX K (n + 1) 0 [l0, l1, l2, l3, l4, l5] r (σ, sz, k, c) = zk_run E (zk_VT E) M_X0_doTick (C_X0_doTick E) P PX K n 1 [l0, l1, l2, l3, l4, l5] (.int (0) :: r) (σ, sz, k, c)) ∧
  (∀ (n : Nat) (l0 l1 l2 l3 l4 l5 : Option Value) (x : Int32) (r : List Value) (σ : zk_S) (sz k c : Nat), zk_run E (zk_VT E) M_X0_doTick (C_X0_doTick E) P PX K (n + 1) 1 [l0, l1, l2, l3, l4, l5] (.int x :: r) (σ, sz, k, c) = zk_run E (zk_VT E) M_X0_doTick (C_X0_doTick E) P PX K n 2 [l0, l1, zk_kl l2, some (.int x), l4, l5] r (σ, sz, k, c)) ∧
  (∀ (n : Nat) (l0 l1 l2 l3 l4 l5 : Option Value)  (r : List Value) (σ : zk_S) (sz k c : Nat), zk_run E (zk_VT E) M_X0_doTick (C_X0_doTick E) P PX K (n + 1) 2 [l0, l1, l2, l3, l4, l5] r (σ, sz, k, c) = K 2 [l0, l1, l2, l3, l4, l5] r (σ, sz, k, c)) ∧
  (∀ (n : Nat) (l0 l1 l2 l3 l4 l5 : Option Value)  (r : List Value) (σ : zk_S) (sz k c : Nat), zk_run E (zk_VT E) M_X0_doTick (C_X0_doTick E) P PX K (n + 1) 3 [l0, l1, l2, l3, l4, l5] r (σ, sz, k, c) = zk_run E (zk_VT E) M_X0_doTick (C_X0_doTick E) P PX K n 5 [l0, l1, l2, l3, l4, l5] (.int (20) :: r) (σ, sz, k, c)) ∧
  (∀ (n : Nat) (l0 l1 l2 l3 l4 l5 : Option Value) (x y : Int32) (r : List Value) (σ : zk_S) (sz k c : Nat), zk_run E (zk_VT E) M_X0_doTick (C_X0_doTick E) P PX K (n + 1) 5 [l0, l1, l2, l3, l4, l5] (.int y :: .int x :: r) (σ, sz, k, c) = ((y ≤ x → zk_run E (zk_VT E) M_X0_doTick (C_X0_doTick E) P PX K n 51 [l0, l1, l2, l3, l4, l5] r (σ, sz, k, c)) ∧ (¬ (y ≤ x) → zk_run E (zk_VT E) M_X0_doTick (C_X0_doTick E) P PX K n 8 [l0, l1, l2, l3, l4, l5] r (σ, sz, k, c)))) ∧
  (∀ (n : Nat) (l0 l2 l3 l4 l5 : Option Value) (y1 : Value) (r : List Value) (σ : zk_S) (sz k c : Nat), zk_run E (zk_VT E) M_X0_doTick (C_X0_doTick E) P PX K (n + 1) 8 [l0, some y1, l2, l3, l4, l5] r (σ, sz, k, c) = (zk_isr y1 ∧ zk_run E (zk_VT E) M_X0_doTick (C_X0_doTick E) P PX K n 9 [l0, some y1, l2, l3, l4, l5] (y1 :: r) (σ, sz, k, c))) ∧
  (∀ (n : Nat) (l0 l1 l3 l4 l5 : Option Value) (y2 : Value) (r : List Value) (σ : zk_S) (sz k c : Nat), zk_run E (zk_VT E) M_X0_doTick (C_X0_doTick E) P PX K (n + 1) 9 [l0, l1, some y2, l3, l4, l5] r (σ, sz, k, c) = (zk_isr y2 ∧ zk_run E (zk_VT E) M_X0_doTick (C_X0_doTick E) P PX K n 10 [l0, l1, some y2, l3, l4, l5] (y2 :: r) (σ, sz, k, c))) ∧
  (∀ (n : Nat) (l0 l1 l2 l4 l5 : Option Value) (y3 : Int32) (r : List Value) (σ : zk_S) (sz k c : Nat), zk_run E (zk_VT E) M_X0_doTick (C_X0_doTick E) P PX K (n + 1) 10 [l0, l1, l2, some (.int y3), l4, l5] r (σ, sz, k, c) = zk_run E (zk_VT E) M_X0_doTick (C_X0_doTick E) P PX K n 11 [l0, l1, l2, some (.int y3), l4, l5] (.int y3 :: r) (σ, sz, k, c)) ∧
  (∀ (n : Nat) (l0 l1 l2 l3 l4 l5 : Option Value) (v0 : Value) (v1 : Value) (v2 : Value)  (σ : zk_S) (sz k c : Nat), zk_run E (zk_VT E) M_X0_doTick (C_X0_doTick E) P PX K (n + 1) 11 [l0, l1, l2, l3, l4, l5] [v0, v1, v2] (σ, sz, k, c) = (k + 0 ≤ 0 ∧ c + 0 ≤ 0 ∧ (sp_X0_exitToGo E) [v2, v1, v0] σ sz (fun v s2 z2 => zk_run E (zk_VT E) M_X0_doTick (C_X0_doTick E) P PX K n 14 [l0, l1, l2, l3, l4, l5] (zk_psh v []) (s2, z2, k + 0, c + 0)) (fun X s2 z2 => PX X s2 z2))) ∧
  (∀ (n : Nat) (l0 l1 l2 l3 l4 l5 : Option Value) (x : Value) (r : List Value) (σ : zk_S) (sz k c : Nat), zk_run E (zk_VT E) M_X0_doTick (C_X0_doTick E) P PX K (n + 1) 14 [l0, l1, l2, l3, l4, l5] (x :: r) (σ, sz, k, c) = (zk_isr x ∧ zk_run E (zk_VT E) M_X0_doTick (C_X0_doTick E) P PX K n 16 [l0, l1, l2, zk_kl l3, some (x), l5] r (σ, sz, k, c))) ∧
  (∀ (n : Nat) (l1 l2 l3 l4 l5 : Option Value) (y0 : Value) (r : List Value) (σ : zk_S) (sz k c : Nat), zk_run E (zk_VT E) M_X0_doTick (C_X0_doTick E) P PX K (n + 1) 16 [some y0, l1, l2, l3, l4, l5] r (σ, sz, k, c) = (zk_isr y0 ∧ zk_run E (zk_VT E) M_X0_doTick (C_X0_doTick E) P PX K n 17 [some y0, l1, l2, l3, l4, l5] (y0 :: r) (σ, sz, k, c))) ∧
  (∀ (n : Nat) (l0 l1 l2 l3 l4 l5 : Option Value) (a : Nat) (r : List Value) (σ : zk_S) (sz k c : Nat), zk_run E (zk_VT E) M_X0_doTick (C_X0_doTick E) P PX K (n + 1) 17 [l0, l1, l2, l3, l4, l5] (.ref a :: r) (σ, sz, k, c) = zk_fld (zk_view E σ a) [0] 1 (fun v => zk_run E (zk_VT E) M_X0_doTick (C_X0_doTick E) P PX K n 20 [l0, l1, l2, l3, l4, l5] (v :: r) (σ, sz, k, c))) ∧
  (∀ (n : Nat) (l0 l1 l2 l4 l5 : Option Value) (y3 : Int32) (r : List Value) (σ : zk_S) (sz k c : Nat), zk_run E (zk_VT E) M_X0_doTick (C_X0_doTick E) P PX K (n + 1) 20 [l0, l1, l2, some (.int y3), l4, l5] r (σ, sz, k, c) = zk_run E (zk_VT E) M_X0_doTick (C_X0_doTick E) P PX K n 21 [l0, l1, l2, some (.int y3), l4, l5] (.int y3 :: r) (σ, sz, k, c)) ∧
  (∀ (n : Nat) (l0 l1 l2 l3 l5 : Option Value) (y4 : Value) (r : List Value) (σ : zk_S) (sz k c : Nat), zk_run E (zk_VT E) M_X0_doTick (C_X0_doTick E) P PX K (n + 1) 21 [l0, l1, l2, l3, some y4, l5] r (σ, sz, k, c) = (zk_isr y4 ∧ zk_run E (zk_VT E) M_X0_doTick (C_X0_doTick E) P PX K n 23 [l0, l1, l2, l3, some y4, l5] (y4 :: r) (σ, sz, k, c))) ∧
  (∀ (n : Nat) (l0 l1 l2 l3 l4 l5 : Option Value) (v : Value) (r : List Value) (σ : zk_S) (sz k c : Nat), zk_run E (zk_VT E) M_X0_doTick (C_X0_doTick E) P PX K (n + 1) 23 [l0, l1, l2, l3, l4, l5] (v :: r) (σ, sz, k, c) = (zk_isr v ∧ (¬ v = .null → zk_run E (zk_VT E) M_X0_doTick (C_X0_doTick E) P PX K n 30 [l0, l1, l2, l3, l4, l5] r (σ, sz, k, c)) ∧ (¬ (¬ v = .null) → zk_run E (zk_VT E) M_X0_doTick (C_X0_doTick E) P PX K n 26 [l0, l1, l2, l3, l4, l5] r (σ, sz, k, c)))) ∧
  (∀ (n : Nat) (l0 l1 l2 l3 l4 l5 : Option Value)  (r : List Value) (σ : zk_S) (sz k c : Nat), zk_run E (zk_VT E) M_X0_doTick (C_X0_doTick E) P PX K (n + 1) 26 [l0, l1, l2, l3, l4, l5] r (σ, sz, k, c) = zk_run E (zk_VT E) M_X0_doTick (C_X0_doTick E) P PX K n 27 [l0, l1, l2, l3, l4, l5] (.int (0) :: r) (σ, sz, k, c)) ∧
  (∀ (n : Nat) (l0 l1 l2 l3 l4 l5 : Option Value)  (r : List Value) (σ : zk_S) (sz k c : Nat), zk_run E (zk_VT E) M_X0_doTick (C_X0_doTick E) P PX K (n + 1) 27 [l0, l1, l2, l3, l4, l5] r (σ, sz, k, c) = zk_run E (zk_VT E) M_X0_doTick (C_X0_doTick E) P PX K n 44 [l0, l1, l2, l3, l4, l5] r (σ, sz, k, c)) ∧
  (∀ (n : Nat) (l1 l2 l3 l4 l5 : Option Value) (y0 : Value) (r : List Value) (σ : zk_S) (sz k c : Nat), zk_run E (zk_VT E) M_X0_doTick (C_X0_doTick E) P PX K (n + 1) 30 [some y0, l1, l2, l3, l4, l5] r (σ, sz, k, c) = (zk_isr y0 ∧ zk_run E (zk_VT E) M_X0_doTick (C_X0_doTick E) P PX K n 31 [some y0, l1, l2, l3, l4, l5] (y0 :: r) (σ, sz, k, c))) ∧
  (∀ (n : Nat) (l0 l1 l2 l3 l4 l5 : Option Value) (a : Nat) (r : List Value) (σ : zk_S) (sz k c : Nat), zk_run E (zk_VT E) M_X0_doTick (C_X0_doTick E) P PX K (n + 1) 31 [l0, l1, l2, l3, l4, l5] (.ref a :: r) (σ, sz, k, c) = zk_fld (zk_view E σ a) [0] 0 (fun v => zk_run E (zk_VT E) M_X0_doTick (C_X0_doTick E) P PX K n 34 [l0, l1, l2, l3, l4, l5] (v :: r) (σ, sz, k, c))) ∧
  (∀ (n : Nat) (l0 l1 l2 l4 l5 : Option Value) (y3 : Int32) (r : List Value) (σ : zk_S) (sz k c : Nat), zk_run E (zk_VT E) M_X0_doTick (C_X0_doTick E) P PX K (n + 1) 34 [l0, l1, l2, some (.int y3), l4, l5] r (σ, sz, k, c) = zk_run E (zk_VT E) M_X0_doTick (C_X0_doTick E) P PX K n 35 [l0, l1, l2, some (.int y3), l4, l5] (.int y3 :: r) (σ, sz, k, c)) ∧
  (∀ (n : Nat) (l0 l1 l2 l3 l4 l5 : Option Value) (a : Nat) (i : Int32) (r : List Value) (σ : zk_S) (sz k c : Nat), zk_run E (zk_VT E) M_X0_doTick (C_X0_doTick E) P PX K (n + 1) 35 [l0, l1, l2, l3, l4, l5] (.int i :: .ref a :: r) (σ, sz, k, c) = zk_ild (zk_view E σ a) (zk_ar E 0) i (fun x => zk_run E (zk_VT E) M_X0_doTick (C_X0_doTick E) P PX K n 36 [l0, l1, l2, l3, l4, l5] (.int x :: r) (σ, sz, k, c))) ∧
  (∀ (n : Nat) (l0 l1 l2 l3 l5 : Option Value) (y4 : Value) (r : List Value) (σ : zk_S) (sz k c : Nat), zk_run E (zk_VT E) M_X0_doTick (C_X0_doTick E) P PX K (n + 1) 36 [l0, l1, l2, l3, some y4, l5] r (σ, sz, k, c) = (zk_isr y4 ∧ zk_run E (zk_VT E) M_X0_doTick (C_X0_doTick E) P PX K n 38 [l0, l1, l2, l3, some y4, l5] (y4 :: r) (σ, sz, k, c))) ∧
  (∀ (n : Nat) (l0 l1 l2 l3 l4 l5 : Option Value) (a : Nat) (r : List Value) (σ : zk_S) (sz k c : Nat), zk_run E (zk_VT E) M_X0_doTick (C_X0_doTick E) P PX K (n + 1) 38 [l0, l1, l2, l3, l4, l5] (.ref a :: r) (σ, sz, k, c) = zk_fld (zk_view E σ a) [1, 6] 5 (fun v => zk_run E (zk_VT E) M_X0_doTick (C_X0_doTick E) P PX K n 41 [l0, l1, l2, l3, l4, l5] (v :: r) (σ, sz, k, c))) ∧
  (∀ (n : Nat) (l0 l1 l2 l3 l4 l5 : Option Value) (x y : Int32) (v0 : Value) (v1 : Value)  (σ : zk_S) (sz k c : Nat), zk_run E (zk_VT E) M_X0_doTick (C_X0_doTick E) P PX K (n + 1) 41 [l0, l1, l2, l3, l4, l5] (.int y :: .int x :: [v0, v1]) (σ, sz, k, c) = (([v0, v1] : List Value).length ≤ 4 ∧ k ≤ 0 ∧ c ≤ 0 ∧ zk_run E (zk_VT E) M_X0_doTick (C_X0_doTick E) P PX K n 44 [l0, l1, l2, l3, l4, l5] (.int (i_min x y) :: [v0, v1]) (σ, sz, k, c))) ∧
  (∀ (n : Nat) (l0 l1 l2 l3 l4 l5 : Option Value) (a : Nat) (i x : Int32) (r : List Value) (σ : zk_S) (sz k c : Nat), zk_run E (zk_VT E) M_X0_doTick (C_X0_doTick E) P PX K (n + 1) 44 [l0, l1, l2, l3, l4, l5] (.int x :: .int i :: .ref a :: r) (σ, sz, k, c) = zk_ist (zk_view E σ a) (zk_ar E 0) i x (fun e => zk_wrok E σ a e ∧ zk_run E (zk_VT E) M_X0_doTick (C_X0_doTick E) P PX K n 45 [l0, l1, l2, l3, l4, l5] r (zk_wr E σ a e, sz, k, c))) ∧
  (∀ (n : Nat) (l0 l1 l2 l4 l5 : Option Value) (y3 : Int32) (r : List Value) (σ : zk_S) (sz k c : Nat), zk_run E (zk_VT E) M_X0_doTick (C_X0_doTick E) P PX K (n + 1) 45 [l0, l1, l2, some (.int y3), l4, l5] r (σ, sz, k, c) = zk_run E (zk_VT E) M_X0_doTick (C_X0_doTick E) P PX K n 48 [l0, l1, zk_kl l2, some (.int (y3 + 1)), l4, l5] r (σ, sz, k, c)) ∧
  (∀ (n : Nat) (l0 l1 l2 l3 l4 l5 : Option Value)  (r : List Value) (σ : zk_S) (sz k c : Nat), zk_run E (zk_VT E) M_X0_doTick (C_X0_doTick E) P PX K (n + 1) 48 [l0, l1, l2, l3, l4, l5] r (σ, sz, k, c) = zk_run E (zk_VT E) M_X0_doTick (C_X0_doTick E) P PX K n 2 [l0, l1, l2, l3, l4, l5] r (σ, sz, k, c)) ∧
  (∀ (n : Nat) (l0 l1 l2 l3 l4 l5 : Option Value)  (r : List Value) (σ : zk_S) (sz k c : Nat), zk_run E (zk_VT E) M_X0_doTick (C_X0_doTick E) P PX K (n + 1) 51 [l0, l1, l2, l3, l4, l5] r (σ, sz, k, c) = zk_run E (zk_VT E) M_X0_doTick (C_X0_doTick E) P PX K n 52 [l0, l1, l2, l3, l4, l5] (.int (0) :: r) (σ, sz, k, c)) ∧
  (∀ (n : Nat) (l0 l1 l2 l3 l4 l5 : Option Value) (x : Int32) (r : List Value) (σ : zk_S) (sz k c : Nat), zk_run E (zk_VT E) M_X0_doTick (C_X0_doTick E) P PX K (n + 1) 52 [l0, l1, l2, l3, l4, l5] (.int x :: r) (σ, sz, k, c) = zk_run E (zk_VT E) M_X0_doTick (C_X0_doTick E) P PX K n 53 [l0, l1, zk_kl l2, some (.int x), l4, l5] r (σ, sz, k, c)) ∧
  (∀ (n : Nat) (l0 l1 l2 l3 l4 l5 : Option Value)  (r : List Value) (σ : zk_S) (sz k c : Nat), zk_run E (zk_VT E) M_X0_doTick (C_X0_doTick E) P PX K (n + 1) 53 [l0, l1, l2, l3, l4, l5] r (σ, sz, k, c) = K 53 [l0, l1, l2, l3, l4, l5] r (σ, sz, k, c)) ∧
  (∀ (n : Nat) (l0 l1 l2 l3 l4 l5 : Option Value)  (r : List Value) (σ : zk_S) (sz k c : Nat), zk_run E (zk_VT E) M_X0_doTick (C_X0_doTick E) P PX K (n + 1) 54 [l0, l1, l2, l3, l4, l5] r (σ, sz, k, c) = zk_run E (zk_VT E) M_X0_doTick (C_X0_doTick E) P PX K n 56 [l0, l1, l2, l3, l4, l5] (.int (20) :: r) (σ, sz, k, c)) ∧
  (∀ (n : Nat) (l0 l1 l2 l3 l4 l5 : Option Value) (x y : Int32) (r : List Value) (σ : zk_S) (sz k c : Nat), zk_run E (zk_VT E) M_X0_doTick (C_X0_doTick E) P PX K (n + 1) 56 [l0, l1, l2, l3, l4, l5] (.int y :: .int x :: r) (σ, sz, k, c) = ((y ≤ x → zk_run E (zk_VT E) M_X0_doTick (C_X0_doTick E) P PX K n 134 [l0, l1, l2, l3, l4, l5] r (σ, sz, k, c)) ∧ (¬ (y ≤ x) → zk_run E (zk_VT E) M_X0_doTick (C_X0_doTick E) P PX K n 59 [l0, l1, l2, l3, l4, l5] r (σ, sz, k, c)))) ∧
  (∀ (n : Nat) (l0 l2 l3 l4 l5 : Option Value) (y1 : Value) (r : List Value) (σ : zk_S) (sz k c : Nat), zk_run E (zk_VT E) M_X0_doTick (C_X0_doTick E) P PX K (n + 1) 59 [l0, some y1, l2, l3, l4, l5] r (σ, sz, k, c) = (zk_isr y1 ∧ zk_run E (zk_VT E) M_X0_doTick (C_X0_doTick E) P PX K n 60 [l0, some y1, l2, l3, l4, l5] (y1 :: r) (σ, sz, k, c))) ∧
  (∀ (n : Nat) (l0 l1 l3 l4 l5 : Option Value) (y2 : Value) (r : List Value) (σ : zk_S) (sz k c : Nat), zk_run E (zk_VT E) M_X0_doTick (C_X0_doTick E) P PX K (n + 1) 60 [l0, l1, some y2, l3, l4, l5] r (σ, sz, k, c) = (zk_isr y2 ∧ zk_run E (zk_VT E) M_X0_doTick (C_X0_doTick E) P PX K n 61 [l0, l1, some y2, l3, l4, l5] (y2 :: r) (σ, sz, k, c))) ∧
  (∀ (n : Nat) (l0 l1 l2 l4 l5 : Option Value) (y3 : Int32) (r : List Value) (σ : zk_S) (sz k c : Nat), zk_run E (zk_VT E) M_X0_doTick (C_X0_doTick E) P PX K (n + 1) 61 [l0, l1, l2, some (.int y3), l4, l5] r (σ, sz, k, c) = zk_run E (zk_VT E) M_X0_doTick (C_X0_doTick E) P PX K n 62 [l0, l1, l2, some (.int y3), l4, l5] (.int y3 :: r) (σ, sz, k, c)) ∧
  (∀ (n : Nat) (l0 l1 l2 l3 l4 l5 : Option Value) (v0 : Value) (v1 : Value) (v2 : Value)  (σ : zk_S) (sz k c : Nat), zk_run E (zk_VT E) M_X0_doTick (C_X0_doTick E) P PX K (n + 1) 62 [l0, l1, l2, l3, l4, l5] [v0, v1, v2] (σ, sz, k, c) = (k + 0 ≤ 0 ∧ c + 0 ≤ 0 ∧ (sp_X0_exitToGo E) [v2, v1, v0] σ sz (fun v s2 z2 => zk_run E (zk_VT E) M_X0_doTick (C_X0_doTick E) P PX K n 65 [l0, l1, l2, l3, l4, l5] (zk_psh v []) (s2, z2, k + 0, c + 0)) (fun X s2 z2 => PX X s2 z2))) ∧
  (∀ (n : Nat) (l0 l1 l2 l3 l4 l5 : Option Value) (x : Value) (r : List Value) (σ : zk_S) (sz k c : Nat), zk_run E (zk_VT E) M_X0_doTick (C_X0_doTick E) P PX K (n + 1) 65 [l0, l1, l2, l3, l4, l5] (x :: r) (σ, sz, k, c) = (zk_isr x ∧ zk_run E (zk_VT E) M_X0_doTick (C_X0_doTick E) P PX K n 67 [l0, l1, l2, zk_kl l3, some (x), l5] r (σ, sz, k, c))) ∧
  (∀ (n : Nat) (l0 l1 l2 l3 l5 : Option Value) (y4 : Value) (r : List Value) (σ : zk_S) (sz k c : Nat), zk_run E (zk_VT E) M_X0_doTick (C_X0_doTick E) P PX K (n + 1) 67 [l0, l1, l2, l3, some y4, l5] r (σ, sz, k, c) = (zk_isr y4 ∧ zk_run E (zk_VT E) M_X0_doTick (C_X0_doTick E) P PX K n 69 [l0, l1, l2, l3, some y4, l5] (y4 :: r) (σ, sz, k, c))) ∧
  (∀ (n : Nat) (l0 l1 l2 l3 l4 l5 : Option Value) (v : Value) (r : List Value) (σ : zk_S) (sz k c : Nat), zk_run E (zk_VT E) M_X0_doTick (C_X0_doTick E) P PX K (n + 1) 69 [l0, l1, l2, l3, l4, l5] (v :: r) (σ, sz, k, c) = (zk_isr v ∧ (¬ v = .null → zk_run E (zk_VT E) M_X0_doTick (C_X0_doTick E) P PX K n 76 [l0, l1, l2, l3, l4, l5] r (σ, sz, k, c)) ∧ (¬ (¬ v = .null) → zk_run E (zk_VT E) M_X0_doTick (C_X0_doTick E) P PX K n 72 [l0, l1, l2, l3, l4, l5] r (σ, sz, k, c)))) ∧
  (∀ (n : Nat) (l0 l1 l2 l3 l4 l5 : Option Value)  (r : List Value) (σ : zk_S) (sz k c : Nat), zk_run E (zk_VT E) M_X0_doTick (C_X0_doTick E) P PX K (n + 1) 72 [l0, l1, l2, l3, l4, l5] r (σ, sz, k, c) = zk_run E (zk_VT E) M_X0_doTick (C_X0_doTick E) P PX K n 73 [l0, l1, l2, l3, l4, l5] (.null :: r) (σ, sz, k, c)) := ⟨by intros; rfl, by intros; rfl, by intros; rfl, by intros; rfl, by intros; rfl, by intros; rfl, by intros; rfl, by intros; rfl, by intros; rfl, by intros; rfl, by intros; rfl, by intros; rfl, by intros; rfl, by intros; rfl, by intros; rfl, by intros; rfl, by intros; rfl, by intros; rfl, by intros; rfl, by intros; rfl, by intros; rfl, by intros; rfl, by intros; rfl, by intros; rfl, by intros; rfl, by intros; rfl, by intros; rfl, by intros; rfl, by intros; rfl, by intros; rfl, by intros; rfl, by intros; rfl, by intros; rfl, by intros; rfl, by intros; rfl, by intros; rfl, by intros; rfl, by intros; rfl, by intros; rfl, by intros; rfl⟩
theorem r_X0_doTick_1 (E : zk_E) (P : zk_P zk_S) (PX : zk_X zk_S) (K : Nat → zk_L → List Value → zk_W zk_S → Prop) : (∀ (n : Nat) (l0 l1 l2 l3 l4 l5 : Option Value)  (r : List Value) (σ : zk_S) (sz k c : Nat), zk_run E (zk_VT E) M_X0_doTick (C_X0_doTick E) P PX K (n + 1) 73 [l0, l1, l2, l3, l4, l5] r (σ, sz, k, c) = zk_run E (zk_VT E) M_X0_doTick (C_X0_doTick E) P PX K n 87 [l0, l1, l2, l3, l4, l5] r (σ, sz, k, c)) ∧
  (∀ (n : Nat) (l0 l1 l2 l3 l5 : Option Value) (y4 : Value) (r : List Value) (σ : zk_S) (sz k c : Nat), zk_run E (zk_VT E) M_X0_doTick (C_X0_doTick E) P PX K (n + 1) 76 [l0, l1, l2, l3, some y4, l5] r (σ, sz, k, c) = (zk_isr y4 ∧ zk_run E (zk_VT E) M_X0_doTick (C_X0_doTick E) P PX K n 78 [l0, l1, l2, l3, some y4, l5] (y4 :: r) (σ, sz, k, c))) ∧
  (∀ (n : Nat) (l0 l2 l3 l4 l5 : Option Value) (y1 : Value) (r : List Value) (σ : zk_S) (sz k c : Nat), zk_run E (zk_VT E) M_X0_doTick (C_X0_doTick E) P PX K (n + 1) 78 [l0, some y1, l2, l3, l4, l5] r (σ, sz, k, c) = (zk_isr y1 ∧ zk_run E (zk_VT E) M_X0_doTick (C_X0_doTick E) P PX K n 79 [l0, some y1, l2, l3, l4, l5] (y1 :: r) (σ, sz, k, c))) ∧
  (∀ (n : Nat) (l0 l1 l2 l3 l4 l5 : Option Value) (a : Nat) (r : List Value) (σ : zk_S) (sz k c : Nat), zk_run E (zk_VT E) M_X0_doTick (C_X0_doTick E) P PX K (n + 1) 79 [l0, l1, l2, l3, l4, l5] (.ref a :: r) (σ, sz, k, c) = zk_fld (zk_view E σ a) [4] 0 (fun v => zk_run E (zk_VT E) M_X0_doTick (C_X0_doTick E) P PX K n 82 [l0, l1, l2, l3, l4, l5] (v :: r) (σ, sz, k, c))) ∧
  (∀ (n : Nat) (l0 l1 l2 l4 l5 : Option Value) (y3 : Int32) (r : List Value) (σ : zk_S) (sz k c : Nat), zk_run E (zk_VT E) M_X0_doTick (C_X0_doTick E) P PX K (n + 1) 82 [l0, l1, l2, some (.int y3), l4, l5] r (σ, sz, k, c) = zk_run E (zk_VT E) M_X0_doTick (C_X0_doTick E) P PX K n 83 [l0, l1, l2, some (.int y3), l4, l5] (.int y3 :: r) (σ, sz, k, c)) ∧
  (∀ (n : Nat) (l0 l1 l2 l3 l4 l5 : Option Value) (a : Nat) (i : Int32) (r : List Value) (σ : zk_S) (sz k c : Nat), zk_run E (zk_VT E) M_X0_doTick (C_X0_doTick E) P PX K (n + 1) 83 [l0, l1, l2, l3, l4, l5] (.int i :: .ref a :: r) (σ, sz, k, c) = zk_qld (zk_view E σ a) i [zk_ar E 3, zk_ar E 4, zk_ar E 5, zk_ar E 6, zk_ar E 7] (fun x => (x = none → zk_run E (zk_VT E) M_X0_doTick (C_X0_doTick E) P PX K n 84 [l0, l1, l2, l3, l4, l5] (.null :: r) (σ, sz, k, c)) ∧ ∀ b, x = some b → zk_run E (zk_VT E) M_X0_doTick (C_X0_doTick E) P PX K n 84 [l0, l1, l2, l3, l4, l5] (.ref b :: r) (σ, sz, k, c))) ∧
  (∀ (n : Nat) (l0 l1 l2 l3 l4 l5 : Option Value) (v0 : Value) (v1 : Value)  (σ : zk_S) (sz k c : Nat), zk_run E (zk_VT E) M_X0_doTick (C_X0_doTick E) P PX K (n + 1) 84 [l0, l1, l2, l3, l4, l5] [v0, v1] (σ, sz, k, c) = (k + 0 ≤ 0 ∧ c + 0 ≤ 0 ∧ (zk_rv (zk_VT E) (fun ci => Nat.beq ci 1 || Nat.beq ci 6) (sp_X2_otherThan E)) [v1, v0] σ sz (fun v s2 z2 => zk_run E (zk_VT E) M_X0_doTick (C_X0_doTick E) P PX K n 87 [l0, l1, l2, l3, l4, l5] (zk_psh v []) (s2, z2, k + 0, c + 0)) (fun X s2 z2 => PX X s2 z2))) ∧
  (∀ (n : Nat) (l0 l1 l2 l3 l4 l5 : Option Value) (x : Value) (r : List Value) (σ : zk_S) (sz k c : Nat), zk_run E (zk_VT E) M_X0_doTick (C_X0_doTick E) P PX K (n + 1) 87 [l0, l1, l2, l3, l4, l5] (x :: r) (σ, sz, k, c) = (zk_isr x ∧ zk_run E (zk_VT E) M_X0_doTick (C_X0_doTick E) P PX K n 89 [l0, l1, l2, l3, zk_kl l4, some (x)] r (σ, sz, k, c))) ∧
  (∀ (n : Nat) (l1 l2 l3 l4 l5 : Option Value) (y0 : Value) (r : List Value) (σ : zk_S) (sz k c : Nat), zk_run E (zk_VT E) M_X0_doTick (C_X0_doTick E) P PX K (n + 1) 89 [some y0, l1, l2, l3, l4, l5] r (σ, sz, k, c) = (zk_isr y0 ∧ zk_run E (zk_VT E) M_X0_doTick (C_X0_doTick E) P PX K n 90 [some y0, l1, l2, l3, l4, l5] (y0 :: r) (σ, sz, k, c))) ∧
  (∀ (n : Nat) (l0 l1 l2 l3 l4 l5 : Option Value) (a : Nat) (r : List Value) (σ : zk_S) (sz k c : Nat), zk_run E (zk_VT E) M_X0_doTick (C_X0_doTick E) P PX K (n + 1) 90 [l0, l1, l2, l3, l4, l5] (.ref a :: r) (σ, sz, k, c) = zk_fld (zk_view E σ a) [0] 0 (fun v => zk_run E (zk_VT E) M_X0_doTick (C_X0_doTick E) P PX K n 93 [l0, l1, l2, l3, l4, l5] (v :: r) (σ, sz, k, c))) ∧
  (∀ (n : Nat) (l0 l1 l2 l4 l5 : Option Value) (y3 : Int32) (r : List Value) (σ : zk_S) (sz k c : Nat), zk_run E (zk_VT E) M_X0_doTick (C_X0_doTick E) P PX K (n + 1) 93 [l0, l1, l2, some (.int y3), l4, l5] r (σ, sz, k, c) = zk_run E (zk_VT E) M_X0_doTick (C_X0_doTick E) P PX K n 94 [l0, l1, l2, some (.int y3), l4, l5] (.int y3 :: r) (σ, sz, k, c)) ∧
  (∀ (n : Nat) (l0 l1 l2 l3 l4 l5 : Option Value) (v u : Value) (r : List Value) (σ : zk_S) (sz k c : Nat), zk_run E (zk_VT E) M_X0_doTick (C_X0_doTick E) P PX K (n + 1) 94 [l0, l1, l2, l3, l4, l5] (v :: u :: r) (σ, sz, k, c) = (zk_c1 v ∧ zk_c1 u ∧ zk_run E (zk_VT E) M_X0_doTick (C_X0_doTick E) P PX K n 95 [l0, l1, l2, l3, l4, l5] (v :: u :: v :: u :: r) (σ, sz, k, c))) ∧
  (∀ (n : Nat) (l0 l1 l2 l3 l4 l5 : Option Value) (a : Nat) (i : Int32) (r : List Value) (σ : zk_S) (sz k c : Nat), zk_run E (zk_VT E) M_X0_doTick (C_X0_doTick E) P PX K (n + 1) 95 [l0, l1, l2, l3, l4, l5] (.int i :: .ref a :: r) (σ, sz, k, c) = zk_ild (zk_view E σ a) (zk_ar E 0) i (fun x => zk_run E (zk_VT E) M_X0_doTick (C_X0_doTick E) P PX K n 96 [l0, l1, l2, l3, l4, l5] (.int x :: r) (σ, sz, k, c))) ∧
  (∀ (n : Nat) (l1 l2 l3 l4 l5 : Option Value) (y0 : Value) (r : List Value) (σ : zk_S) (sz k c : Nat), zk_run E (zk_VT E) M_X0_doTick (C_X0_doTick E) P PX K (n + 1) 96 [some y0, l1, l2, l3, l4, l5] r (σ, sz, k, c) = (zk_isr y0 ∧ zk_run E (zk_VT E) M_X0_doTick (C_X0_doTick E) P PX K n 97 [some y0, l1, l2, l3, l4, l5] (y0 :: r) (σ, sz, k, c))) ∧
  (∀ (n : Nat) (l0 l1 l2 l3 l4 l5 : Option Value) (a : Nat) (r : List Value) (σ : zk_S) (sz k c : Nat), zk_run E (zk_VT E) M_X0_doTick (C_X0_doTick E) P PX K (n + 1) 97 [l0, l1, l2, l3, l4, l5] (.ref a :: r) (σ, sz, k, c) = zk_fld (zk_view E σ a) [0] 1 (fun v => zk_run E (zk_VT E) M_X0_doTick (C_X0_doTick E) P PX K n 100 [l0, l1, l2, l3, l4, l5] (v :: r) (σ, sz, k, c))) ∧
  (∀ (n : Nat) (l0 l1 l2 l4 l5 : Option Value) (y3 : Int32) (r : List Value) (σ : zk_S) (sz k c : Nat), zk_run E (zk_VT E) M_X0_doTick (C_X0_doTick E) P PX K (n + 1) 100 [l0, l1, l2, some (.int y3), l4, l5] r (σ, sz, k, c) = zk_run E (zk_VT E) M_X0_doTick (C_X0_doTick E) P PX K n 101 [l0, l1, l2, some (.int y3), l4, l5] (.int y3 :: r) (σ, sz, k, c)) ∧
  (∀ (n : Nat) (l0 l1 l2 l3 l4 l5 : Option Value) (a : Nat) (i : Int32) (r : List Value) (σ : zk_S) (sz k c : Nat), zk_run E (zk_VT E) M_X0_doTick (C_X0_doTick E) P PX K (n + 1) 101 [l0, l1, l2, l3, l4, l5] (.int i :: .ref a :: r) (σ, sz, k, c) = zk_ild (zk_view E σ a) (zk_ar E 0) i (fun x => zk_run E (zk_VT E) M_X0_doTick (C_X0_doTick E) P PX K n 102 [l0, l1, l2, l3, l4, l5] (.int x :: r) (σ, sz, k, c))) ∧
  (∀ (n : Nat) (l0 l1 l2 l3 l4 l5 : Option Value) (x y : Int32) (r : List Value) (σ : zk_S) (sz k c : Nat), zk_run E (zk_VT E) M_X0_doTick (C_X0_doTick E) P PX K (n + 1) 102 [l0, l1, l2, l3, l4, l5] (.int y :: .int x :: r) (σ, sz, k, c) = zk_run E (zk_VT E) M_X0_doTick (C_X0_doTick E) P PX K n 103 [l0, l1, l2, l3, l4, l5] (.int (x - y) :: r) (σ, sz, k, c)) ∧
  (∀ (n : Nat) (l0 l1 l2 l3 l4 l5 : Option Value) (a : Nat) (i x : Int32) (r : List Value) (σ : zk_S) (sz k c : Nat), zk_run E (zk_VT E) M_X0_doTick (C_X0_doTick E) P PX K (n + 1) 103 [l0, l1, l2, l3, l4, l5] (.int x :: .int i :: .ref a :: r) (σ, sz, k, c) = zk_ist (zk_view E σ a) (zk_ar E 0) i x (fun e => zk_wrok E σ a e ∧ zk_run E (zk_VT E) M_X0_doTick (C_X0_doTick E) P PX K n 104 [l0, l1, l2, l3, l4, l5] r (zk_wr E σ a e, sz, k, c))) ∧
  (∀ (n : Nat) (l0 l1 l2 l3 l4 : Option Value) (y5 : Value) (r : List Value) (σ : zk_S) (sz k c : Nat), zk_run E (zk_VT E) M_X0_doTick (C_X0_doTick E) P PX K (n + 1) 104 [l0, l1, l2, l3, l4, some y5] r (σ, sz, k, c) = (zk_isr y5 ∧ zk_run E (zk_VT E) M_X0_doTick (C_X0_doTick E) P PX K n 106 [l0, l1, l2, l3, l4, some y5] (y5 :: r) (σ, sz, k, c))) ∧
  (∀ (n : Nat) (l0 l1 l2 l3 l4 l5 : Option Value) (v : Value) (r : List Value) (σ : zk_S) (sz k c : Nat), zk_run E (zk_VT E) M_X0_doTick (C_X0_doTick E) P PX K (n + 1) 106 [l0, l1, l2, l3, l4, l5] (v :: r) (σ, sz, k, c) = (zk_isr v ∧ (v = .null → zk_run E (zk_VT E) M_X0_doTick (C_X0_doTick E) P PX K n 128 [l0, l1, l2, l3, l4, l5] r (σ, sz, k, c)) ∧ (¬ (v = .null) → zk_run E (zk_VT E) M_X0_doTick (C_X0_doTick E) P PX K n 109 [l0, l1, l2, l3, l4, l5] r (σ, sz, k, c)))) ∧
  (∀ (n : Nat) (l1 l2 l3 l4 l5 : Option Value) (y0 : Value) (r : List Value) (σ : zk_S) (sz k c : Nat), zk_run E (zk_VT E) M_X0_doTick (C_X0_doTick E) P PX K (n + 1) 109 [some y0, l1, l2, l3, l4, l5] r (σ, sz, k, c) = (zk_isr y0 ∧ zk_run E (zk_VT E) M_X0_doTick (C_X0_doTick E) P PX K n 110 [some y0, l1, l2, l3, l4, l5] (y0 :: r) (σ, sz, k, c))) ∧
  (∀ (n : Nat) (l0 l1 l2 l3 l4 l5 : Option Value) (a : Nat) (r : List Value) (σ : zk_S) (sz k c : Nat), zk_run E (zk_VT E) M_X0_doTick (C_X0_doTick E) P PX K (n + 1) 110 [l0, l1, l2, l3, l4, l5] (.ref a :: r) (σ, sz, k, c) = zk_fld (zk_view E σ a) [0] 0 (fun v => zk_run E (zk_VT E) M_X0_doTick (C_X0_doTick E) P PX K n 113 [l0, l1, l2, l3, l4, l5] (v :: r) (σ, sz, k, c))) ∧
  (∀ (n : Nat) (l0 l1 l2 l3 l4 : Option Value) (y5 : Value) (r : List Value) (σ : zk_S) (sz k c : Nat), zk_run E (zk_VT E) M_X0_doTick (C_X0_doTick E) P PX K (n + 1) 113 [l0, l1, l2, l3, l4, some y5] r (σ, sz, k, c) = (zk_isr y5 ∧ zk_run E (zk_VT E) M_X0_doTick (C_X0_doTick E) P PX K n 115 [l0, l1, l2, l3, l4, some y5] (y5 :: r) (σ, sz, k, c))) ∧
  (∀ (n : Nat) (l0 l1 l2 l3 l4 l5 : Option Value) (a : Nat) (r : List Value) (σ : zk_S) (sz k c : Nat), zk_run E (zk_VT E) M_X0_doTick (C_X0_doTick E) P PX K (n + 1) 115 [l0, l1, l2, l3, l4, l5] (.ref a :: r) (σ, sz, k, c) = zk_fld (zk_view E σ a) [5] 0 (fun v => zk_run E (zk_VT E) M_X0_doTick (C_X0_doTick E) P PX K n 118 [l0, l1, l2, l3, l4, l5] (v :: r) (σ, sz, k, c))) ∧
  (∀ (n : Nat) (l0 l1 l2 l3 l4 l5 : Option Value) (v u : Value) (r : List Value) (σ : zk_S) (sz k c : Nat), zk_run E (zk_VT E) M_X0_doTick (C_X0_doTick E) P PX K (n + 1) 118 [l0, l1, l2, l3, l4, l5] (v :: u :: r) (σ, sz, k, c) = (zk_c1 v ∧ zk_c1 u ∧ zk_run E (zk_VT E) M_X0_doTick (C_X0_doTick E) P PX K n 119 [l0, l1, l2, l3, l4, l5] (v :: u :: v :: u :: r) (σ, sz, k, c))) ∧
  (∀ (n : Nat) (l0 l1 l2 l3 l4 l5 : Option Value) (a : Nat) (i : Int32) (r : List Value) (σ : zk_S) (sz k c : Nat), zk_run E (zk_VT E) M_X0_doTick (C_X0_doTick E) P PX K (n + 1) 119 [l0, l1, l2, l3, l4, l5] (.int i :: .ref a :: r) (σ, sz, k, c) = zk_ild (zk_view E σ a) (zk_ar E 0) i (fun x => zk_run E (zk_VT E) M_X0_doTick (C_X0_doTick E) P PX K n 120 [l0, l1, l2, l3, l4, l5] (.int x :: r) (σ, sz, k, c))) ∧
  (∀ (n : Nat) (l1 l2 l3 l4 l5 : Option Value) (y0 : Value) (r : List Value) (σ : zk_S) (sz k c : Nat), zk_run E (zk_VT E) M_X0_doTick (C_X0_doTick E) P PX K (n + 1) 120 [some y0, l1, l2, l3, l4, l5] r (σ, sz, k, c) = (zk_isr y0 ∧ zk_run E (zk_VT E) M_X0_doTick (C_X0_doTick E) P PX K n 121 [some y0, l1, l2, l3, l4, l5] (y0 :: r) (σ, sz, k, c))) ∧
  (∀ (n : Nat) (l0 l1 l2 l3 l4 l5 : Option Value) (a : Nat) (r : List Value) (σ : zk_S) (sz k c : Nat), zk_run E (zk_VT E) M_X0_doTick (C_X0_doTick E) P PX K (n + 1) 121 [l0, l1, l2, l3, l4, l5] (.ref a :: r) (σ, sz, k, c) = zk_fld (zk_view E σ a) [0] 1 (fun v => zk_run E (zk_VT E) M_X0_doTick (C_X0_doTick E) P PX K n 124 [l0, l1, l2, l3, l4, l5] (v :: r) (σ, sz, k, c))) ∧
  (∀ (n : Nat) (l0 l1 l2 l4 l5 : Option Value) (y3 : Int32) (r : List Value) (σ : zk_S) (sz k c : Nat), zk_run E (zk_VT E) M_X0_doTick (C_X0_doTick E) P PX K (n + 1) 124 [l0, l1, l2, some (.int y3), l4, l5] r (σ, sz, k, c) = zk_run E (zk_VT E) M_X0_doTick (C_X0_doTick E) P PX K n 125 [l0, l1, l2, some (.int y3), l4, l5] (.int y3 :: r) (σ, sz, k, c)) ∧
  (∀ (n : Nat) (l0 l1 l2 l3 l4 l5 : Option Value) (a : Nat) (i : Int32) (r : List Value) (σ : zk_S) (sz k c : Nat), zk_run E (zk_VT E) M_X0_doTick (C_X0_doTick E) P PX K (n + 1) 125 [l0, l1, l2, l3, l4, l5] (.int i :: .ref a :: r) (σ, sz, k, c) = zk_ild (zk_view E σ a) (zk_ar E 0) i (fun x => zk_run E (zk_VT E) M_X0_doTick (C_X0_doTick E) P PX K n 126 [l0, l1, l2, l3, l4, l5] (.int x :: r) (σ, sz, k, c))) ∧
  (∀ (n : Nat) (l0 l1 l2 l3 l4 l5 : Option Value) (x y : Int32) (r : List Value) (σ : zk_S) (sz k c : Nat), zk_run E (zk_VT E) M_X0_doTick (C_X0_doTick E) P PX K (n + 1) 126 [l0, l1, l2, l3, l4, l5] (.int y :: .int x :: r) (σ, sz, k, c) = zk_run E (zk_VT E) M_X0_doTick (C_X0_doTick E) P PX K n 127 [l0, l1, l2, l3, l4, l5] (.int (x + y) :: r) (σ, sz, k, c)) ∧
  (∀ (n : Nat) (l0 l1 l2 l3 l4 l5 : Option Value) (a : Nat) (i x : Int32) (r : List Value) (σ : zk_S) (sz k c : Nat), zk_run E (zk_VT E) M_X0_doTick (C_X0_doTick E) P PX K (n + 1) 127 [l0, l1, l2, l3, l4, l5] (.int x :: .int i :: .ref a :: r) (σ, sz, k, c) = zk_ist (zk_view E σ a) (zk_ar E 0) i x (fun e => zk_wrok E σ a e ∧ zk_run E (zk_VT E) M_X0_doTick (C_X0_doTick E) P PX K n 128 [l0, l1, l2, l3, l4, l5] r (zk_wr E σ a e, sz, k, c))) ∧
  (∀ (n : Nat) (l0 l1 l2 l4 l5 : Option Value) (y3 : Int32) (r : List Value) (σ : zk_S) (sz k c : Nat), zk_run E (zk_VT E) M_X0_doTick (C_X0_doTick E) P PX K (n + 1) 128 [l0, l1, l2, some (.int y3), l4, l5] r (σ, sz, k, c) = zk_run E (zk_VT E) M_X0_doTick (C_X0_doTick E) P PX K n 131 [l0, l1, zk_kl l2, some (.int (y3 + 1)), l4, l5] r (σ, sz, k, c)) ∧
  (∀ (n : Nat) (l0 l1 l2 l3 l4 l5 : Option Value)  (r : List Value) (σ : zk_S) (sz k c : Nat), zk_run E (zk_VT E) M_X0_doTick (C_X0_doTick E) P PX K (n + 1) 131 [l0, l1, l2, l3, l4, l5] r (σ, sz, k, c) = zk_run E (zk_VT E) M_X0_doTick (C_X0_doTick E) P PX K n 53 [l0, l1, l2, l3, l4, l5] r (σ, sz, k, c)) ∧
  (∀ (n : Nat) (l0 l1 l2 l3 l4 l5 : Option Value)   (σ : zk_S) (sz k c : Nat), zk_run E (zk_VT E) M_X0_doTick (C_X0_doTick E) P PX K (n + 1) 134 [l0, l1, l2, l3, l4, l5] [] (σ, sz, k, c) = (P none σ sz ∧ k ≤ 0 ∧ c ≤ 0)) ∧
  (∀ (n : Nat) (l0 l1 l2 l3 l4 l5 : Option Value) (r : List Value) (w : zk_W zk_S), zk_go E (zk_VT E) M_X0_doTick (C_X0_doTick E) P PX K n 0 [l0, l1, l2, l3, l4, l5] r w = zk_run E (zk_VT E) M_X0_doTick (C_X0_doTick E) P PX K (n + 1) 0 [l0, l1, l2, l3, l4, l5] r w) ∧
  (∀ (n : Nat) (l0 l1 l2 l4 l5 : Option Value) (y3 : Int32) (r : List Value) (σ : zk_S) (sz k c : Nat), zk_go E (zk_VT E) M_X0_doTick (C_X0_doTick E) P PX K n 2 [l0, l1, l2, some (.int y3), l4, l5] r (σ, sz, k, c) = zk_run E (zk_VT E) M_X0_doTick (C_X0_doTick E) P PX K n 3 [l0, l1, l2, some (.int y3), l4, l5] (.int y3 :: r) (σ, sz, k, c)) ∧
  (∀ (n : Nat) (l0 l1 l2 l4 l5 : Option Value) (y3 : Int32) (r : List Value) (σ : zk_S) (sz k c : Nat), zk_go E (zk_VT E) M_X0_doTick (C_X0_doTick E) P PX K n 53 [l0, l1, l2, some (.int y3), l4, l5] r (σ, sz, k, c) = zk_run E (zk_VT E) M_X0_doTick (C_X0_doTick E) P PX K n 54 [l0, l1, l2, some (.int y3), l4, l5] (.int y3 :: r) (σ, sz, k, c)) := ⟨by intros; rfl, by intros; rfl, by intros; rfl, by intros; rfl, by intros; rfl, by intros; rfl, by intros; rfl, by intros; rfl, by intros; rfl, by intros; rfl, by intros; rfl, by intros; rfl, by intros; rfl, by intros; rfl, by intros; rfl, by intros; rfl, by intros; rfl, by intros; rfl, by intros; rfl, by intros; rfl, by intros; rfl, by intros; rfl, by intros; rfl, by intros; rfl, by intros; rfl, by intros; rfl, by intros; rfl, by intros; rfl, by intros; rfl, by intros; rfl, by intros; rfl, by intros; rfl, by intros; rfl, by intros; rfl, by intros; rfl, by intros; rfl, by intros; rfl, by intros; rfl, by intros; rfl⟩
theorem vc_X0_doTick (E : zk_E) : zk_VC E (zk_VT E) M_X0_doTick (C_X0_doTick E) 6 (sp_X0_doTick E) := by
  intro av σ sz P PX h
  obtain ⟨J, N, Q, O, U⟩ := σ
  unfold sp_X0_doTick at h
  split at h
  case h_2 => exact h.elim
  rename_i a0 p w
  obtain ⟨rfl, h⟩ := h
  refine ⟨Nat.le_of_ble_eq_true rfl, fun G hG => ?_⟩
  change G 0 [some (.ref (zk_ad E 15)), some (.ref p), some (.ref w), none, none, none] [] ((J, N, Q, O, U), sz, 0, 0)
  try dsimp only at h
  obtain ⟨rfl, rfl, J1, N1, fl, f, door, wn, hmi, hxr, hfld, hwn, hwl, hwd, hwi, hf, h⟩ := h
  have fb : ∀ r, r < 20 → f r ≤ 4000 := fun r hr => Nat.le_trans (sumN_le hr) hf
  have un1617 : ∀ A B C, zk_un (zk_un (zk_un N 17 B) 16 A) 16 C = zk_un (zk_un N 17 B) 16 C := fun A B C => zk_un_un _ _ _ _
  have hx : ∀ A B, XR E sz (J, zk_un (zk_un N 17 B) 16 A, Q, O, U) J1 N1 fl := fun _ _ => hxr.cn rfl rfl
  have hw : ∀ A B, WLv J1 N1 (zk_un (zk_un N 17 B) 16 A) := fun _ _ => hwl
  have hd : ∀ A B, WDp J1 N1 (zk_un (zk_un N 17 B) 16 A) := fun _ _ => hwd
  -- what goes
  have exd : ∀ k, k < 20 → t_out J1 N1 k = true → ∃ c b, xat Q (lea J1 N1 k / 2) = some c ∧ OKA E sz c ∧ isX (O c) ∧ (∃ ci, (ci = 1 ∨ ci = 6) ∧ (∀ kk, zk_is (O c) kk = (kk ci = true)) ∧ ∀ F : Value → Prop, zk_fld (O c) [1, 6] 5 F = F (.int (nI (t_fl N1 door wn (lea J1 N1 k / 2))))) ∧ Q 2 k = some b ∧ x_oth (O c) b = rq Q (m_into N1 (lea J1 N1 k)) := by
    intro k hk ho
    have hj := t_out_mr hmi hk ho
    obtain ⟨b, hb, hbo, hOb⟩ := hxr.2.1.room hmi hj
    have hl := lea_act (t_out_lea hk ho)
    have he := (m_act_mem.mp hl.1).1
    obtain ⟨c, hc, hco, hcX, ⟨ci, hci, hic⟩, hoth⟩ := hxr.oth hmi hl.1 hj hl.2.1 hb
    obtain ⟨hMX, -, ci2, fw, sh, rest, hci2, hOc, -, hfw⟩ := hxr.ex (by omega) hc
    have hOc : O c = some (cX ci2 (rq Q (ef N1 (lea J1 N1 k / 2))) (rq Q (et N1 (lea J1 N1 k / 2))) (m_px N1 (2 * (lea J1 N1 k / 2))) (m_py N1 (2 * (lea J1 N1 k / 2))) (nI (steep (2 * (lea J1 N1 k / 2)))) fw sh rest) := hOc
    refine ⟨c, b, hc, hco, hcX, ⟨ci, hci, hic, fun F => ?_⟩, hb, hoth⟩
    have e0 : fw = nI (t_fl N1 door wn (lea J1 N1 k / 2)) := by
      rw [hfw]
      by_cases z : lea J1 N1 k / 2 < 40
      · rw [if_pos z]
        rcases hMX with ⟨-, m1⟩ | ⟨m1, -⟩
        · exact hfld _ z m1
        · exact absurd z m1
      · rw [if_neg z]; unfold t_fl; rw [if_neg z]; rfl
    rw [hOc, e0]
    unfold cX
    rcases hci2 with rfl | rfl <;> simp [zk_fld_o, zk_nth]
  have flb : ∀ k, k < 20 → t_out J1 N1 k = true → t_fl N1 door wn (lea J1 N1 k / 2) ≤ 12 := by
    intro k hk ho
    unfold t_fl
    split
    · next z =>
      split
      · omega
      · have hl := (lea_act (t_out_lea hk ho)).1
        have := ((hmi.2.2.1 _ (act_nd hl z)).2.2.2.1.eq (by decide)).2.2
        omega
    · omega
  have loop2 : ∀ B, (∀ i, i < 20 → B i = nI (t_go J1 N1 door wn f i)) → ∀ m k A l4 l5, k + m = 20 → (∀ i, i < 20 → A i = nI (t_mv J1 N1 (t_go J1 N1 door wn f) f k i)) → G 53 [some (.ref (zk_ad E 15)), some (.ref (zk_ad E 1)), some (.ref (zk_ad E 7)), some (.int (nI k)), l4, l5] [] ((J, zk_un (zk_un N 17 B) 16 A, Q, O, U), sz, 0, 0) := by
    intro B hB m
    induction m with
    | zero =>
      intro k A l4 l5 hk hA
      have c1 : (20 : Int32) ≤ nI k := (nI_le (a := 20) (by omega) (by omega) : nI 20 ≤ nI k)
      have ek : k = 20 := by omega
      subst ek
      rw [t_mv_20 hmi] at hA
      (refine hG 900 _ _ _ _ ?_; simp only [r_X0_doTick, r_X0_doTick_1, zk_kl_none, zk_kl_int, zk_kl_ref, zk_kl_null, zk_kl_long, zk_kl_rf, zk_isr_ref, zk_isr_null, zk_isr_rf9, zk_c1_int, zk_c1_ref, zk_c1_null, zk_c1_rf, zk_psh_some, zk_psh_none, zk_nok_int, zk_nok_bool0, zk_nok_bool1, zk_nok_b, zk_fok_0, zk_fok_1, zk_fok_2, zk_fok_n, zk_fok_rf, zb_f, zb_p, zb_i, zb_a, zb_s, zk_nth_0, zk_nth_s, zk_fld_o, zk_put_o, zk_rv_eq, zk_ri_eq, zk_is_o, List.mem_cons, List.not_mem_nil, or_false, false_or, or_true, true_or, and_true, true_and, not_false_iff, not_true_eq_false, true_implies, false_implies, imp_self, implies_true, forall_const, zk_lit, zk_uj_ap, zk_un_ap, zk_un_un, zk_uj_uj, Nat.reduceEqDiff, eq_self, zk_bq, Bool.true_or, Bool.false_or, Nat.le_refl, Nat.zero_add, Nat.add_zero, Nat.reduceAdd, Nat.reduceLeDiff, Nat.le_zero_eq, and_self, and_false, false_and, ite_true, ite_false, Nat.zero_le, List.length_cons, List.length_nil, Option.some.injEq, forall_eq', reduceCtorEq, c1])
      exact h A B hA
    | succ m ih =>
      intro k A l4 l5 hk hA
      have c1 : ¬ (20 : Int32) ≤ nI k := (nI_ge (b := 20) (by omega) (by decide) : ¬ nI 20 ≤ nI k)
      have hin : vp_in (nI k) 20 := n_in (by omega) (by decide)
      have hcl : (nI k).toNatClampNeg = k := n_cl (by omega)
      have hBk := hB k (by omega)
      have hAk := hA k (by omega)
      obtain ⟨s1, s2⟩ := t_mv_20ok (door := door) (w := wn) (f := f) hmi k (by omega)
      have hg := t_go_le J1 N1 door wn f k
      have hs2 := s2 k (Nat.le_refl _)
      have hsub : nI (t_mv J1 N1 (t_go J1 N1 door wn f) f k k) - nI (t_go J1 N1 door wn f k) = nI (t_mv J1 N1 (t_go J1 N1 door wn f) f k k - t_go J1 N1 door wn f k) := n_sub (by omega)
      have ih2 := fun A2 l4 l5 => ih (k + 1) A2 l4 l5 (by omega)
      rw [t_mv_eq] at ih2
      cases ho : t_out J1 N1 k with
      | false =>
        have g0 : t_go J1 N1 door wn f k = 0 := by unfold t_go; rw [ho]; rfl
        rw [g0, t_step_0] at ih2
        have i3 := fun l4 l5 => ih2 (upd A k (nI (t_mv J1 N1 (t_go J1 N1 door wn f) f k k))) l4 l5 (fun i hi => by
          by_cases z : i = k
          · rw [z, upd_self]
          · rw [upd_ne _ _ z]; exact hA i hi)
        rw [g0, Nat.sub_zero] at hsub
        rw [g0] at hBk
        have xg : x_go J1 N1 Q k = none := by unfold x_go; rw [ho]; rfl
        (refine hG 900 _ _ _ _ ?_; simp only [r_X0_doTick, r_X0_doTick_1, zk_kl_none, zk_kl_int, zk_kl_ref, zk_kl_null, zk_kl_long, zk_kl_rf, zk_isr_ref, zk_isr_null, zk_isr_rf9, zk_c1_int, zk_c1_ref, zk_c1_null, zk_c1_rf, zk_psh_some, zk_psh_none, zk_nok_int, zk_nok_bool0, zk_nok_bool1, zk_nok_b, zk_fok_0, zk_fok_1, zk_fok_2, zk_fok_n, zk_fok_rf, zb_f, zb_p, zb_i, zb_a, zb_s, zk_nth_0, zk_nth_s, zk_fld_o, zk_put_o, zk_rv_eq, zk_ri_eq, zk_is_o, List.mem_cons, List.not_mem_nil, or_false, false_or, or_true, true_or, and_true, true_and, not_false_iff, not_true_eq_false, true_implies, false_implies, imp_self, implies_true, forall_const, zk_lit, zk_uj_ap, zk_un_ap, zk_un_un, zk_uj_uj, Nat.reduceEqDiff, eq_self, zk_bq, Bool.true_or, Bool.false_or, Nat.le_refl, Nat.zero_add, Nat.add_zero, Nat.reduceAdd, Nat.reduceLeDiff, Nat.le_zero_eq, and_self, and_false, false_and, ite_true, ite_false, Nat.zero_le, List.length_cons, List.length_nil, Option.some.injEq, forall_eq', reduceCtorEq, c1, spe_X0_exitToGo])
        refine ⟨J1, N1, k, hmi, hw A B, hd A B, by omega, rfl, ?_⟩
        rw [xg]
        simp only [r_X0_doTick, r_X0_doTick_1, zk_kl_none, zk_kl_int, zk_kl_ref, zk_kl_null, zk_kl_long, zk_kl_rf, zk_isr_ref, zk_isr_null, zk_isr_rf9, zk_c1_int, zk_c1_ref, zk_c1_null, zk_c1_rf, zk_psh_some, zk_psh_none, zk_nok_int, zk_nok_bool0, zk_nok_bool1, zk_nok_b, zk_fok_0, zk_fok_1, zk_fok_2, zk_fok_n, zk_fok_rf, zb_f, zb_p, zb_i, zb_a, zb_s, zk_nth_0, zk_nth_s, zk_fld_o, zk_put_o, zk_rv_eq, zk_ri_eq, zk_is_o, List.mem_cons, List.not_mem_nil, or_false, false_or, or_true, true_or, and_true, true_and, not_false_iff, not_true_eq_false, true_implies, false_implies, imp_self, implies_true, forall_const, zk_lit, zk_uj_ap, zk_un_ap, zk_un_un, zk_uj_uj, Nat.reduceEqDiff, eq_self, zk_bq, Bool.true_or, Bool.false_or, Nat.le_refl, Nat.zero_add, Nat.add_zero, Nat.reduceAdd, Nat.reduceLeDiff, Nat.le_zero_eq, and_self, and_false, false_and, ite_true, ite_false, Nat.zero_le, List.length_cons, List.length_nil, Option.some.injEq, forall_eq', reduceCtorEq, va_rf_n, hin, hcl, hAk, hBk, hsub, zk_un_un, n_succ]
        exact i3 _ _
      | true =>
        obtain ⟨c, b, hc, hco, hcX, ⟨ci, hci, hic, -⟩, hb, hoth⟩ := exd k (by omega) ho
        have hc1 := hco.1
        have kk : (Nat.beq ci 1 || Nat.beq ci 6) = true := by rcases hci with rfl | rfl <;> rfl
        have xg : x_go J1 N1 Q k = some c := by unfold x_go; rw [if_pos ho]; exact hc
        have hj := t_out_mr hmi (show k < 20 by omega) ho
        have hl := lea_act (t_out_lea (show k < 20 by omega) ho)
        unfold t_step at ih2
        (refine hG 900 _ _ _ _ ?_; simp only [r_X0_doTick, r_X0_doTick_1, zk_kl_none, zk_kl_int, zk_kl_ref, zk_kl_null, zk_kl_long, zk_kl_rf, zk_isr_ref, zk_isr_null, zk_isr_rf9, zk_c1_int, zk_c1_ref, zk_c1_null, zk_c1_rf, zk_psh_some, zk_psh_none, zk_nok_int, zk_nok_bool0, zk_nok_bool1, zk_nok_b, zk_fok_0, zk_fok_1, zk_fok_2, zk_fok_n, zk_fok_rf, zb_f, zb_p, zb_i, zb_a, zb_s, zk_nth_0, zk_nth_s, zk_fld_o, zk_put_o, zk_rv_eq, zk_ri_eq, zk_is_o, List.mem_cons, List.not_mem_nil, or_false, false_or, or_true, true_or, and_true, true_and, not_false_iff, not_true_eq_false, true_implies, false_implies, imp_self, implies_true, forall_const, zk_lit, zk_uj_ap, zk_un_ap, zk_un_un, zk_uj_uj, Nat.reduceEqDiff, eq_self, zk_bq, Bool.true_or, Bool.false_or, Nat.le_refl, Nat.zero_add, Nat.add_zero, Nat.reduceAdd, Nat.reduceLeDiff, Nat.le_zero_eq, and_self, and_false, false_and, ite_true, ite_false, Nat.zero_le, List.length_cons, List.length_nil, Option.some.injEq, forall_eq', reduceCtorEq, c1, spe_X0_exitToGo])
        refine ⟨J1, N1, k, hmi, hw A B, hd A B, by omega, rfl, ?_⟩
        rw [xg]
        obtain ⟨r, r1, r2, r3⟩ := m_ends hmi hl.1
        have r20 := r1.lt hmi
        rcases r3 with r3 | ⟨q, q1, q2, q3⟩
        · rw [if_pos r3] at ih2
          have hrq : rq Q (m_into N1 (lea J1 N1 k)) = none := by unfold rq; rw [if_pos r3]
          have i3 := fun l4 l5 => ih2 (upd A k (nI (t_mv J1 N1 (t_go J1 N1 door wn f) f k k - t_go J1 N1 door wn f k))) l4 l5 (fun i hi => by
            by_cases z : i = k
            · rw [z, upd_self, updN_self]
            · rw [upd_ne _ _ z, updN_ne _ _ z]; exact hA i hi)
          simp only [r_X0_doTick, r_X0_doTick_1, zk_kl_none, zk_kl_int, zk_kl_ref, zk_kl_null, zk_kl_long, zk_kl_rf, zk_isr_ref, zk_isr_null, zk_isr_rf9, zk_c1_int, zk_c1_ref, zk_c1_null, zk_c1_rf, zk_psh_some, zk_psh_none, zk_nok_int, zk_nok_bool0, zk_nok_bool1, zk_nok_b, zk_fok_0, zk_fok_1, zk_fok_2, zk_fok_n, zk_fok_rf, zb_f, zb_p, zb_i, zb_a, zb_s, zk_nth_0, zk_nth_s, zk_fld_o, zk_put_o, zk_rv_eq, zk_ri_eq, zk_is_o, List.mem_cons, List.not_mem_nil, or_false, false_or, or_true, true_or, and_true, true_and, not_false_iff, not_true_eq_false, true_implies, false_implies, imp_self, implies_true, forall_const, zk_lit, zk_uj_ap, zk_un_ap, zk_un_un, zk_uj_uj, Nat.reduceEqDiff, eq_self, zk_bq, Bool.true_or, Bool.false_or, Nat.le_refl, Nat.zero_add, Nat.add_zero, Nat.reduceAdd, Nat.reduceLeDiff, Nat.le_zero_eq, and_self, and_false, false_and, ite_true, ite_false, Nat.zero_le, List.length_cons, List.length_nil, Option.some.injEq, forall_eq', reduceCtorEq, va_rf_s, va_rf_n, hin, hcl, hb, zk_vd hc1, hic, kk, spe_X2_otherThan, hc1, hcX, hoth, hrq, hAk, hBk, hsub, zk_un_un, n_succ]
          exact i3 _ _
        · have q20 := q1.lt hmi
          obtain ⟨b2, hb2, hbo2, hOb2⟩ := hxr.2.1.room hmi q1
          have hb2 : Q 2 q = some b2 := hb2
          have hOb2 : O b2 = some (xrm N1 q) := hOb2
          have hb21 := hbo2.1
          have b0 : ∀ F : Value → Prop, zk_fld (O b2) [5] 0 F = F (.int (nI q)) := fun F => by rw [hOb2]; simp [zk_fld_o, xrm, cR, zk_nth]
          have hrq : rq Q (m_into N1 (lea J1 N1 k)) = some b2 := by unfold rq; rw [q3, if_neg (nI_ne1 (by omega)), n_cl (by omega)]; exact hb2
          have hinq : vp_in (nI q) 20 := n_in q20 (by decide)
          have hclq : (nI q).toNatClampNeg = q := n_cl (by omega)
          rw [q3, if_neg (nI_ne1 (by omega)), n_cl (by omega)] at ih2
          have qk : ¬ q = k := by
            rw [hl.2.1, n_inj (by omega) (by omega)] at r2
            omega
          have hAq := hA q q20
          have hup : upd A k (nI (t_mv J1 N1 (t_go J1 N1 door wn f) f k k - t_go J1 N1 door wn f k)) q = nI (t_mv J1 N1 (t_go J1 N1 door wn f) f k q) := by rw [upd_ne _ _ qk]; exact hAq
          rw [updN_ne _ _ qk] at ih2
          have i3 := fun l4 l5 => ih2 (upd (upd A k (nI (t_mv J1 N1 (t_go J1 N1 door wn f) f k k - t_go J1 N1 door wn f k))) q (nI (t_mv J1 N1 (t_go J1 N1 door wn f) f k q + t_go J1 N1 door wn f k))) l4 l5 (fun i hi => by
            by_cases z : i = q
            · rw [z, upd_self, updN_self]
            · rw [upd_ne _ _ z, updN_ne _ _ z]
              by_cases z2 : i = k
              · rw [z2, upd_self, updN_self]
              · rw [upd_ne _ _ z2, updN_ne _ _ z2]; exact hA i hi)
          simp only [r_X0_doTick, r_X0_doTick_1, zk_kl_none, zk_kl_int, zk_kl_ref, zk_kl_null, zk_kl_long, zk_kl_rf, zk_isr_ref, zk_isr_null, zk_isr_rf9, zk_c1_int, zk_c1_ref, zk_c1_null, zk_c1_rf, zk_psh_some, zk_psh_none, zk_nok_int, zk_nok_bool0, zk_nok_bool1, zk_nok_b, zk_fok_0, zk_fok_1, zk_fok_2, zk_fok_n, zk_fok_rf, zb_f, zb_p, zb_i, zb_a, zb_s, zk_nth_0, zk_nth_s, zk_fld_o, zk_put_o, zk_rv_eq, zk_ri_eq, zk_is_o, List.mem_cons, List.not_mem_nil, or_false, false_or, or_true, true_or, and_true, true_and, not_false_iff, not_true_eq_false, true_implies, false_implies, imp_self, implies_true, forall_const, zk_lit, zk_uj_ap, zk_un_ap, zk_un_un, zk_uj_uj, Nat.reduceEqDiff, eq_self, zk_bq, Bool.true_or, Bool.false_or, Nat.le_refl, Nat.zero_add, Nat.add_zero, Nat.reduceAdd, Nat.reduceLeDiff, Nat.le_zero_eq, and_self, and_false, false_and, ite_true, ite_false, Nat.zero_le, List.length_cons, List.length_nil, Option.some.injEq, forall_eq', reduceCtorEq, va_rf_s, hin, hcl, hb, zk_vd hc1, hic, kk, spe_X2_otherThan, hc1, hcX, hoth, hrq, hAk, hBk, hsub, zk_vd hb21, b0, hinq, hclq, hup, n_add, zk_un_un, n_succ]
          exact i3 _ _
  have loop1 : ∀ m k B l4 l5, k + m = 20 → (∀ i, i < k → B i = nI (t_go J1 N1 door wn f i)) → G 2 [some (.ref (zk_ad E 15)), some (.ref (zk_ad E 1)), some (.ref (zk_ad E 7)), some (.int (nI k)), l4, l5] [] ((J, zk_un N 17 B, Q, O, U), sz, 0, 0) := by
    have hw : ∀ B, WLv J1 N1 (zk_un N 17 B) := fun _ => hwl
    have hd : ∀ B, WDp J1 N1 (zk_un N 17 B) := fun _ => hwd
    intro m
    induction m with
    | zero =>
      intro k B l4 l5 hk hB
      have c1 : (20 : Int32) ≤ nI k := (nI_le (a := 20) (by omega) (by omega) : nI 20 ≤ nI k)
      have l2 := fun l4 l5 => loop2 B (fun i hi => hB i (by omega)) 20 0 (N 16) l4 l5 (by omega) (fun i hi => hwi i hi)
      rw [show zk_un (zk_un N 17 B) 16 (N 16) = zk_un N 17 B from zk_un_self (zk_un N 17 B) 16, show nI 0 = 0 from rfl] at l2
      (refine hG 900 _ _ _ _ ?_; simp only [r_X0_doTick, r_X0_doTick_1, zk_kl_none, zk_kl_int, zk_kl_ref, zk_kl_null, zk_kl_long, zk_kl_rf, zk_isr_ref, zk_isr_null, zk_isr_rf9, zk_c1_int, zk_c1_ref, zk_c1_null, zk_c1_rf, zk_psh_some, zk_psh_none, zk_nok_int, zk_nok_bool0, zk_nok_bool1, zk_nok_b, zk_fok_0, zk_fok_1, zk_fok_2, zk_fok_n, zk_fok_rf, zb_f, zb_p, zb_i, zb_a, zb_s, zk_nth_0, zk_nth_s, zk_fld_o, zk_put_o, zk_rv_eq, zk_ri_eq, zk_is_o, List.mem_cons, List.not_mem_nil, or_false, false_or, or_true, true_or, and_true, true_and, not_false_iff, not_true_eq_false, true_implies, false_implies, imp_self, implies_true, forall_const, zk_lit, zk_uj_ap, zk_un_ap, zk_un_un, zk_uj_uj, Nat.reduceEqDiff, eq_self, zk_bq, Bool.true_or, Bool.false_or, Nat.le_refl, Nat.zero_add, Nat.add_zero, Nat.reduceAdd, Nat.reduceLeDiff, Nat.le_zero_eq, and_self, and_false, false_and, ite_true, ite_false, Nat.zero_le, List.length_cons, List.length_nil, Option.some.injEq, forall_eq', reduceCtorEq, c1])
      exact l2 _ _
    | succ m ih =>
      intro k B l4 l5 hk hB
      have c1 : ¬ (20 : Int32) ≤ nI k := (nI_ge (b := 20) (by omega) (by decide) : ¬ nI 20 ≤ nI k)
      have hin : vp_in (nI k) 20 := n_in (by omega) (by decide)
      have hcl : (nI k).toNatClampNeg = k := n_cl (by omega)
      have h16 : N 16 k = nI (f k) := hwi k (by omega)
      have ih2 := fun l4 l5 => ih (k + 1) (upd B k (nI (t_go J1 N1 door wn f k))) l4 l5 (by omega) (fun q hq => by
        by_cases z : q = k
        · rw [z, upd_self]
        · rw [upd_ne _ _ z]; exact hB q (by omega))
      (refine hG 900 _ _ _ _ ?_; simp only [r_X0_doTick, r_X0_doTick_1, zk_kl_none, zk_kl_int, zk_kl_ref, zk_kl_null, zk_kl_long, zk_kl_rf, zk_isr_ref, zk_isr_null, zk_isr_rf9, zk_c1_int, zk_c1_ref, zk_c1_null, zk_c1_rf, zk_psh_some, zk_psh_none, zk_nok_int, zk_nok_bool0, zk_nok_bool1, zk_nok_b, zk_fok_0, zk_fok_1, zk_fok_2, zk_fok_n, zk_fok_rf, zb_f, zb_p, zb_i, zb_a, zb_s, zk_nth_0, zk_nth_s, zk_fld_o, zk_put_o, zk_rv_eq, zk_ri_eq, zk_is_o, List.mem_cons, List.not_mem_nil, or_false, false_or, or_true, true_or, and_true, true_and, not_false_iff, not_true_eq_false, true_implies, false_implies, imp_self, implies_true, forall_const, zk_lit, zk_uj_ap, zk_un_ap, zk_un_un, zk_uj_uj, Nat.reduceEqDiff, eq_self, zk_bq, Bool.true_or, Bool.false_or, Nat.le_refl, Nat.zero_add, Nat.add_zero, Nat.reduceAdd, Nat.reduceLeDiff, Nat.le_zero_eq, and_self, and_false, false_and, ite_true, ite_false, Nat.zero_le, List.length_cons, List.length_nil, Option.some.injEq, forall_eq', reduceCtorEq, c1, spe_X0_exitToGo])
      refine ⟨J1, N1, k, hmi, hw B, hd B, by omega, rfl, ?_⟩
      cases ho : t_out J1 N1 k with
      | false =>
        have g0 : t_go J1 N1 door wn f k = 0 := by unfold t_go; rw [ho]; rfl
        have xg : x_go J1 N1 Q k = none := by unfold x_go; rw [ho]; rfl
        rw [g0] at ih2
        rw [xg]
        simp only [r_X0_doTick, r_X0_doTick_1, zk_kl_none, zk_kl_int, zk_kl_ref, zk_kl_null, zk_kl_long, zk_kl_rf, zk_isr_ref, zk_isr_null, zk_isr_rf9, zk_c1_int, zk_c1_ref, zk_c1_null, zk_c1_rf, zk_psh_some, zk_psh_none, zk_nok_int, zk_nok_bool0, zk_nok_bool1, zk_nok_b, zk_fok_0, zk_fok_1, zk_fok_2, zk_fok_n, zk_fok_rf, zb_f, zb_p, zb_i, zb_a, zb_s, zk_nth_0, zk_nth_s, zk_fld_o, zk_put_o, zk_rv_eq, zk_ri_eq, zk_is_o, List.mem_cons, List.not_mem_nil, or_false, false_or, or_true, true_or, and_true, true_and, not_false_iff, not_true_eq_false, true_implies, false_implies, imp_self, implies_true, forall_const, zk_lit, zk_uj_ap, zk_un_ap, zk_un_un, zk_uj_uj, Nat.reduceEqDiff, eq_self, zk_bq, Bool.true_or, Bool.false_or, Nat.le_refl, Nat.zero_add, Nat.add_zero, Nat.reduceAdd, Nat.reduceLeDiff, Nat.le_zero_eq, and_self, and_false, false_and, ite_true, ite_false, Nat.zero_le, List.length_cons, List.length_nil, Option.some.injEq, forall_eq', reduceCtorEq, va_rf_n, hin, hcl, zk_un_un, n_succ]
        exact ih2 _ _
      | true =>
        obtain ⟨c, b, hc, hco, hcX, ⟨ci, hci, hic, g5⟩, hb, hoth⟩ := exd k (by omega) ho
        have hc1 := hco.1
        have xg : x_go J1 N1 Q k = some c := by unfold x_go; rw [if_pos ho]; exact hc
        have hfb := flb k (by omega) ho
        have g0 : t_go J1 N1 door wn f k = min (f k) (t_fl N1 door wn (lea J1 N1 k / 2)) := by unfold t_go; rw [if_pos ho]
        have hmn : i_min (nI (f k)) (nI (t_fl N1 door wn (lea J1 N1 k / 2))) = nI (min (f k) (t_fl N1 door wn (lea J1 N1 k / 2))) := n_min (by have := fb k (by omega); omega) (by omega)
        rw [g0] at ih2
        rw [xg]
        simp only [r_X0_doTick, r_X0_doTick_1, zk_kl_none, zk_kl_int, zk_kl_ref, zk_kl_null, zk_kl_long, zk_kl_rf, zk_isr_ref, zk_isr_null, zk_isr_rf9, zk_c1_int, zk_c1_ref, zk_c1_null, zk_c1_rf, zk_psh_some, zk_psh_none, zk_nok_int, zk_nok_bool0, zk_nok_bool1, zk_nok_b, zk_fok_0, zk_fok_1, zk_fok_2, zk_fok_n, zk_fok_rf, zb_f, zb_p, zb_i, zb_a, zb_s, zk_nth_0, zk_nth_s, zk_fld_o, zk_put_o, zk_rv_eq, zk_ri_eq, zk_is_o, List.mem_cons, List.not_mem_nil, or_false, false_or, or_true, true_or, and_true, true_and, not_false_iff, not_true_eq_false, true_implies, false_implies, imp_self, implies_true, forall_const, zk_lit, zk_uj_ap, zk_un_ap, zk_un_un, zk_uj_uj, Nat.reduceEqDiff, eq_self, zk_bq, Bool.true_or, Bool.false_or, Nat.le_refl, Nat.zero_add, Nat.add_zero, Nat.reduceAdd, Nat.reduceLeDiff, Nat.le_zero_eq, and_self, and_false, false_and, ite_true, ite_false, Nat.zero_le, List.length_cons, List.length_nil, Option.some.injEq, forall_eq', reduceCtorEq, va_rf_s, hin, hcl, h16, zk_vd hc1, g5, hmn, zk_un_un, n_succ]
        exact ih2 _ _
  have l0 := loop1 20 0 (N 17) none none (by omega) (fun q hq => absurd hq (Nat.not_lt_zero q))
  rw [zk_un_self N 17] at l0
  (refine hG 900 _ _ _ _ ?_; simp only [r_X0_doTick, r_X0_doTick_1, zk_kl_none, zk_kl_int, zk_kl_ref, zk_kl_null, zk_kl_long, zk_kl_rf, zk_isr_ref, zk_isr_null, zk_isr_rf9, zk_c1_int, zk_c1_ref, zk_c1_null, zk_c1_rf, zk_psh_some, zk_psh_none, zk_nok_int, zk_nok_bool0, zk_nok_bool1, zk_nok_b, zk_fok_0, zk_fok_1, zk_fok_2, zk_fok_n, zk_fok_rf, zb_f, zb_p, zb_i, zb_a, zb_s, zk_nth_0, zk_nth_s, zk_fld_o, zk_put_o, zk_rv_eq, zk_ri_eq, zk_is_o, List.mem_cons, List.not_mem_nil, or_false, false_or, or_true, true_or, and_true, true_and, not_false_iff, not_true_eq_false, true_implies, false_implies, imp_self, implies_true, forall_const, zk_lit, zk_uj_ap, zk_un_ap, zk_un_un, zk_uj_uj, Nat.reduceEqDiff, eq_self, zk_bq, Bool.true_or, Bool.false_or, Nat.le_refl, Nat.zero_add, Nat.add_zero, Nat.reduceAdd, Nat.reduceLeDiff, Nat.le_zero_eq, and_self, and_false, false_and, ite_true, ite_false, Nat.zero_le, List.length_cons, List.length_nil, Option.some.injEq, forall_eq', reduceCtorEq])
  exact l0
theorem ct_X0_doTick {l : Launch} (hl : l.stackTraces = false) (E : zk_E) : zk_C l E (zk_VT E) yX0_doTick cX0_doTick 6 (none) rm_X0_doTick (sp_X0_doTick E) := by
  refine zk_meth (M := M_X0_doTick) (C := C_X0_doTick E) hl (by decide +kernel) rfl (fun _ _ => rfl) (zk_VT_ok E) MO_X0_doTick TO_X0_doTick THo_X0_doTick ?_ (vc_X0_doTick E)
  exact fun p e s m args below meth c X pc n mc ms sp2 h => by
    have h2 := zk_lka_mem h
    simp only [List.mem_cons, List.not_mem_nil, or_false, Prod.mk.injEq] at h2
    rcases h2 with ⟨rfl, rfl, rfl, rfl, rfl⟩ | ⟨rfl, rfl, rfl, rfl, rfl⟩ | ⟨rfl, rfl, rfl, rfl, rfl⟩
    · exact zk_coS (idx := 48) X (ct_X0_exitToGo hl E) (List.forall_mem_cons.mpr ⟨zk_wi 274 (by decide +kernel) rfl, List.forall_mem_cons.mpr ⟨zk_wi 275 (by decide +kernel) rfl, List.forall_mem_cons.mpr ⟨zk_wi 5 (by decide +kernel) rfl, List.forall_mem_cons.mpr ⟨zk_wi 276 (by decide +kernel) rfl, fun _ h => absurd h List.not_mem_nil⟩⟩⟩⟩) (by decide +kernel) ⟨by decide, by decide, by decide +kernel⟩ ⟨by decide, by decide⟩
    · exact zk_coS (idx := 48) X (ct_X0_exitToGo hl E) (List.forall_mem_cons.mpr ⟨zk_wi 274 (by decide +kernel) rfl, List.forall_mem_cons.mpr ⟨zk_wi 275 (by decide +kernel) rfl, List.forall_mem_cons.mpr ⟨zk_wi 5 (by decide +kernel) rfl, List.forall_mem_cons.mpr ⟨zk_wi 276 (by decide +kernel) rfl, fun _ h => absurd h List.not_mem_nil⟩⟩⟩⟩) (by decide +kernel) ⟨by decide, by decide, by decide +kernel⟩ ⟨by decide, by decide⟩
    · exact zk_coU (idx := 63) (x := ⟨"ClerestoryPlan$Exit", "otherThan", "(LClerestoryPlan$Room;)LClerestoryPlan$Room;"⟩) X (ct_X2_otherThan hl E) (List.forall_mem_cons.mpr ⟨zk_wi 279 (by decide +kernel) rfl, List.forall_mem_cons.mpr ⟨zk_wi 171 (by decide +kernel) rfl, List.forall_mem_cons.mpr ⟨zk_wi 170 (by decide +kernel) rfl, List.forall_mem_cons.mpr ⟨zk_wi 16 (by decide +kernel) rfl, List.forall_mem_cons.mpr ⟨zk_wi 174 (by decide +kernel) rfl, fun _ h => absurd h List.not_mem_nil⟩⟩⟩⟩⟩) (fun ci h => by
      rw [Bool.or_eq_true] at h
      rcases h with h | h
      · have h := Nat.eq_of_beq_eq_true h
        subst h
        exact ⟨_, _, _, rfl, zk_wi 172 (by decide +kernel) rfl⟩
      · have h := Nat.eq_of_beq_eq_true h
        subst h
        exact ⟨_, _, _, rfl, zk_wi 173 (by decide +kernel) rfl⟩) rfl (by decide +kernel) ⟨by decide, by decide, by decide +kernel⟩ ⟨by decide, by decide⟩
def sp_X0_ticksTillOut (E : zk_E) : zk_Sp zk_S := fun av σ sz P PX => match av with
  | [.ref a, .ref p, .ref w] => a = zk_ad E 15 ∧ p = zk_ad E 1 ∧ w = zk_ad E 7 ∧ ∃ J N fl door wn, MI J N ∧ XR E sz σ J N fl ∧ FLD J N fl door wn ∧ wn ≤ 6 ∧ WLv J N σ.2.1 ∧ WDp J N σ.2.1 ∧ ∀ A B, P (some (.int (a_time J N door wn))) (σ.1, zk_un (zk_un σ.2.1 17 B) 16 A, σ.2.2) sz
  | _ => False
theorem spe_X0_ticksTillOut (E : zk_E) (a : Nat) (p : Nat) (w : Nat) (σ : zk_S) (sz : Nat) (P : zk_P zk_S) (PX : zk_X zk_S) : sp_X0_ticksTillOut E [.ref a, .ref p, .ref w] σ sz P PX = (a = zk_ad E 15 ∧ p = zk_ad E 1 ∧ w = zk_ad E 7 ∧ ∃ J N fl door wn, MI J N ∧ XR E sz σ J N fl ∧ FLD J N fl door wn ∧ wn ≤ 6 ∧ WLv J N σ.2.1 ∧ WDp J N σ.2.1 ∧ ∀ A B, P (some (.int (a_time J N door wn))) (σ.1, zk_un (zk_un σ.2.1 17 B) 16 A, σ.2.2) sz) := propext Iff.rfl
def C_X0_ticksTillOut (E : zk_E) : zk_Cl zk_S := zk_lka [(2, 2, 0, 0, zk_rv (zk_VT E) (fun ci => Nat.beq ci 0) (sp_X0_gather E)), (15, 2, 0, 0, zk_rv (zk_VT E) (fun ci => Nat.beq ci 0) (sp_X0_isAnyToGo E)), (24, 3, 0, 0, zk_rv (zk_VT E) (fun ci => Nat.beq ci 0) (sp_X0_doTick E))]
theorem r_X0_ticksTillOut (E : zk_E) (P : zk_P zk_S) (PX : zk_X zk_S) (K : Nat → zk_L → List Value → zk_W zk_S → Prop) : (∀ (n : Nat) (l1 l2 l3 : Option Value) (y0 : Value) (r : List Value) (σ : zk_S) (sz k c : Nat), zk_run E (zk_VT E) M_X0_ticksTillOut (C_X0_ticksTillOut E) P PX K (n + 1) 0 [some y0, l1, l2, l3] r (σ, sz, k, c) = (zk_isr y0 ∧ zk_run E (zk_VT E) M_X0_ticksTillOut (C_X0_ticksTillOut E) P PX K n 1 [some y0, l1, l2, l3] (y0 :: r) (σ, sz, k, c))) ∧
  (∀ (n : Nat) (l0 l2 l3 : Option Value) (y1 : Value) (r : List Value) (σ : zk_S) (sz k c : Nat), zk_run E (zk_VT E) M_X0_ticksTillOut (C_X0_ticksTillOut E) P PX K (n + 1) 1 [l0, some y1, l2, l3] r (σ, sz, k, c) = (zk_isr y1 ∧ zk_run E (zk_VT E) M_X0_ticksTillOut (C_X0_ticksTillOut E) P PX K n 2 [l0, some y1, l2, l3] (y1 :: r) (σ, sz, k, c))) ∧
  (∀ (n : Nat) (l0 l1 l2 l3 : Option Value) (v0 : Value) (v1 : Value)  (σ : zk_S) (sz k c : Nat), zk_run E (zk_VT E) M_X0_ticksTillOut (C_X0_ticksTillOut E) P PX K (n + 1) 2 [l0, l1, l2, l3] [v0, v1] (σ, sz, k, c) = (k + 0 ≤ 0 ∧ c + 0 ≤ 0 ∧ (zk_rv (zk_VT E) (fun ci => Nat.beq ci 0) (sp_X0_gather E)) [v1, v0] σ sz (fun v s2 z2 => zk_run E (zk_VT E) M_X0_ticksTillOut (C_X0_ticksTillOut E) P PX K n 5 [l0, l1, l2, l3] (zk_psh v []) (s2, z2, k + 0, c + 0)) (fun X s2 z2 => PX X s2 z2))) ∧
  (∀ (n : Nat) (l0 l1 l2 l3 : Option Value)  (r : List Value) (σ : zk_S) (sz k c : Nat), zk_run E (zk_VT E) M_X0_ticksTillOut (C_X0_ticksTillOut E) P PX K (n + 1) 5 [l0, l1, l2, l3] r (σ, sz, k, c) = zk_run E (zk_VT E) M_X0_ticksTillOut (C_X0_ticksTillOut E) P PX K n 6 [l0, l1, l2, l3] (.int (0) :: r) (σ, sz, k, c)) ∧
  (∀ (n : Nat) (l0 l1 l2 l3 : Option Value) (x : Int32) (r : List Value) (σ : zk_S) (sz k c : Nat), zk_run E (zk_VT E) M_X0_ticksTillOut (C_X0_ticksTillOut E) P PX K (n + 1) 6 [l0, l1, l2, l3] (.int x :: r) (σ, sz, k, c) = zk_run E (zk_VT E) M_X0_ticksTillOut (C_X0_ticksTillOut E) P PX K n 7 [l0, l1, zk_kl l2, some (.int x)] r (σ, sz, k, c)) ∧
  (∀ (n : Nat) (l0 l1 l2 l3 : Option Value)  (r : List Value) (σ : zk_S) (sz k c : Nat), zk_run E (zk_VT E) M_X0_ticksTillOut (C_X0_ticksTillOut E) P PX K (n + 1) 7 [l0, l1, l2, l3] r (σ, sz, k, c) = K 7 [l0, l1, l2, l3] r (σ, sz, k, c)) ∧
  (∀ (n : Nat) (l0 l1 l2 l3 : Option Value)  (r : List Value) (σ : zk_S) (sz k c : Nat), zk_run E (zk_VT E) M_X0_ticksTillOut (C_X0_ticksTillOut E) P PX K (n + 1) 8 [l0, l1, l2, l3] r (σ, sz, k, c) = zk_run E (zk_VT E) M_X0_ticksTillOut (C_X0_ticksTillOut E) P PX K n 10 [l0, l1, l2, l3] (.int (1000000) :: r) (σ, sz, k, c)) ∧
  (∀ (n : Nat) (l0 l1 l2 l3 : Option Value) (x y : Int32) (r : List Value) (σ : zk_S) (sz k c : Nat), zk_run E (zk_VT E) M_X0_ticksTillOut (C_X0_ticksTillOut E) P PX K (n + 1) 10 [l0, l1, l2, l3] (.int y :: .int x :: r) (σ, sz, k, c) = ((y ≤ x → zk_run E (zk_VT E) M_X0_ticksTillOut (C_X0_ticksTillOut E) P PX K n 33 [l0, l1, l2, l3] r (σ, sz, k, c)) ∧ (¬ (y ≤ x) → zk_run E (zk_VT E) M_X0_ticksTillOut (C_X0_ticksTillOut E) P PX K n 13 [l0, l1, l2, l3] r (σ, sz, k, c)))) ∧
  (∀ (n : Nat) (l1 l2 l3 : Option Value) (y0 : Value) (r : List Value) (σ : zk_S) (sz k c : Nat), zk_run E (zk_VT E) M_X0_ticksTillOut (C_X0_ticksTillOut E) P PX K (n + 1) 13 [some y0, l1, l2, l3] r (σ, sz, k, c) = (zk_isr y0 ∧ zk_run E (zk_VT E) M_X0_ticksTillOut (C_X0_ticksTillOut E) P PX K n 14 [some y0, l1, l2, l3] (y0 :: r) (σ, sz, k, c))) ∧
  (∀ (n : Nat) (l0 l1 l3 : Option Value) (y2 : Value) (r : List Value) (σ : zk_S) (sz k c : Nat), zk_run E (zk_VT E) M_X0_ticksTillOut (C_X0_ticksTillOut E) P PX K (n + 1) 14 [l0, l1, some y2, l3] r (σ, sz, k, c) = (zk_isr y2 ∧ zk_run E (zk_VT E) M_X0_ticksTillOut (C_X0_ticksTillOut E) P PX K n 15 [l0, l1, some y2, l3] (y2 :: r) (σ, sz, k, c))) ∧
  (∀ (n : Nat) (l0 l1 l2 l3 : Option Value) (v0 : Value) (v1 : Value)  (σ : zk_S) (sz k c : Nat), zk_run E (zk_VT E) M_X0_ticksTillOut (C_X0_ticksTillOut E) P PX K (n + 1) 15 [l0, l1, l2, l3] [v0, v1] (σ, sz, k, c) = (k + 0 ≤ 0 ∧ c + 0 ≤ 0 ∧ (zk_rv (zk_VT E) (fun ci => Nat.beq ci 0) (sp_X0_isAnyToGo E)) [v1, v0] σ sz (fun v s2 z2 => zk_run E (zk_VT E) M_X0_ticksTillOut (C_X0_ticksTillOut E) P PX K n 18 [l0, l1, l2, l3] (zk_psh v []) (s2, z2, k + 0, c + 0)) (fun X s2 z2 => PX X s2 z2))) ∧
  (∀ (n : Nat) (l0 l1 l2 l3 : Option Value) (x : Int32) (r : List Value) (σ : zk_S) (sz k c : Nat), zk_run E (zk_VT E) M_X0_ticksTillOut (C_X0_ticksTillOut E) P PX K (n + 1) 18 [l0, l1, l2, l3] (.int x :: r) (σ, sz, k, c) = ((x = 0 → zk_run E (zk_VT E) M_X0_ticksTillOut (C_X0_ticksTillOut E) P PX K n 33 [l0, l1, l2, l3] r (σ, sz, k, c)) ∧ (¬ (x = 0) → zk_run E (zk_VT E) M_X0_ticksTillOut (C_X0_ticksTillOut E) P PX K n 21 [l0, l1, l2, l3] r (σ, sz, k, c)))) ∧
  (∀ (n : Nat) (l1 l2 l3 : Option Value) (y0 : Value) (r : List Value) (σ : zk_S) (sz k c : Nat), zk_run E (zk_VT E) M_X0_ticksTillOut (C_X0_ticksTillOut E) P PX K (n + 1) 21 [some y0, l1, l2, l3] r (σ, sz, k, c) = (zk_isr y0 ∧ zk_run E (zk_VT E) M_X0_ticksTillOut (C_X0_ticksTillOut E) P PX K n 22 [some y0, l1, l2, l3] (y0 :: r) (σ, sz, k, c))) ∧
  (∀ (n : Nat) (l0 l2 l3 : Option Value) (y1 : Value) (r : List Value) (σ : zk_S) (sz k c : Nat), zk_run E (zk_VT E) M_X0_ticksTillOut (C_X0_ticksTillOut E) P PX K (n + 1) 22 [l0, some y1, l2, l3] r (σ, sz, k, c) = (zk_isr y1 ∧ zk_run E (zk_VT E) M_X0_ticksTillOut (C_X0_ticksTillOut E) P PX K n 23 [l0, some y1, l2, l3] (y1 :: r) (σ, sz, k, c))) ∧
  (∀ (n : Nat) (l0 l1 l3 : Option Value) (y2 : Value) (r : List Value) (σ : zk_S) (sz k c : Nat), zk_run E (zk_VT E) M_X0_ticksTillOut (C_X0_ticksTillOut E) P PX K (n + 1) 23 [l0, l1, some y2, l3] r (σ, sz, k, c) = (zk_isr y2 ∧ zk_run E (zk_VT E) M_X0_ticksTillOut (C_X0_ticksTillOut E) P PX K n 24 [l0, l1, some y2, l3] (y2 :: r) (σ, sz, k, c))) ∧
  (∀ (n : Nat) (l0 l1 l2 l3 : Option Value) (v0 : Value) (v1 : Value) (v2 : Value)  (σ : zk_S) (sz k c : Nat), zk_run E (zk_VT E) M_X0_ticksTillOut (C_X0_ticksTillOut E) P PX K (n + 1) 24 [l0, l1, l2, l3] [v0, v1, v2] (σ, sz, k, c) = (k + 0 ≤ 0 ∧ c + 0 ≤ 0 ∧ (zk_rv (zk_VT E) (fun ci => Nat.beq ci 0) (sp_X0_doTick E)) [v2, v1, v0] σ sz (fun v s2 z2 => zk_run E (zk_VT E) M_X0_ticksTillOut (C_X0_ticksTillOut E) P PX K n 27 [l0, l1, l2, l3] (zk_psh v []) (s2, z2, k + 0, c + 0)) (fun X s2 z2 => PX X s2 z2))) ∧
  (∀ (n : Nat) (l0 l1 l2 : Option Value) (y3 : Int32) (r : List Value) (σ : zk_S) (sz k c : Nat), zk_run E (zk_VT E) M_X0_ticksTillOut (C_X0_ticksTillOut E) P PX K (n + 1) 27 [l0, l1, l2, some (.int y3)] r (σ, sz, k, c) = zk_run E (zk_VT E) M_X0_ticksTillOut (C_X0_ticksTillOut E) P PX K n 30 [l0, l1, zk_kl l2, some (.int (y3 + 1))] r (σ, sz, k, c)) ∧
  (∀ (n : Nat) (l0 l1 l2 l3 : Option Value)  (r : List Value) (σ : zk_S) (sz k c : Nat), zk_run E (zk_VT E) M_X0_ticksTillOut (C_X0_ticksTillOut E) P PX K (n + 1) 30 [l0, l1, l2, l3] r (σ, sz, k, c) = zk_run E (zk_VT E) M_X0_ticksTillOut (C_X0_ticksTillOut E) P PX K n 7 [l0, l1, l2, l3] r (σ, sz, k, c)) ∧
  (∀ (n : Nat) (l0 l1 l2 : Option Value) (y3 : Int32) (r : List Value) (σ : zk_S) (sz k c : Nat), zk_run E (zk_VT E) M_X0_ticksTillOut (C_X0_ticksTillOut E) P PX K (n + 1) 33 [l0, l1, l2, some (.int y3)] r (σ, sz, k, c) = zk_run E (zk_VT E) M_X0_ticksTillOut (C_X0_ticksTillOut E) P PX K n 34 [l0, l1, l2, some (.int y3)] (.int y3 :: r) (σ, sz, k, c)) ∧
  (∀ (n : Nat) (l0 l1 l2 l3 : Option Value) (x : Int32)  (σ : zk_S) (sz k c : Nat), zk_run E (zk_VT E) M_X0_ticksTillOut (C_X0_ticksTillOut E) P PX K (n + 1) 34 [l0, l1, l2, l3] [.int x] (σ, sz, k, c) = (zk_nok (some (.int)) x ∧ P (some (.int x)) σ sz ∧ k ≤ 0 ∧ c ≤ 0)) ∧
  (∀ (n : Nat) (l0 l1 l2 l3 : Option Value) (r : List Value) (w : zk_W zk_S), zk_go E (zk_VT E) M_X0_ticksTillOut (C_X0_ticksTillOut E) P PX K n 0 [l0, l1, l2, l3] r w = zk_run E (zk_VT E) M_X0_ticksTillOut (C_X0_ticksTillOut E) P PX K (n + 1) 0 [l0, l1, l2, l3] r w) ∧
  (∀ (n : Nat) (l0 l1 l2 : Option Value) (y3 : Int32) (r : List Value) (σ : zk_S) (sz k c : Nat), zk_go E (zk_VT E) M_X0_ticksTillOut (C_X0_ticksTillOut E) P PX K n 7 [l0, l1, l2, some (.int y3)] r (σ, sz, k, c) = zk_run E (zk_VT E) M_X0_ticksTillOut (C_X0_ticksTillOut E) P PX K n 8 [l0, l1, l2, some (.int y3)] (.int y3 :: r) (σ, sz, k, c)) := ⟨by intros; rfl, by intros; rfl, by intros; rfl, by intros; rfl, by intros; rfl, by intros; rfl, by intros; rfl, by intros; rfl, by intros; rfl, by intros; rfl, by intros; rfl, by intros; rfl, by intros; rfl, by intros; rfl, by intros; rfl, by intros; rfl, by intros; rfl, by intros; rfl, by intros; rfl, by intros; rfl, by intros; rfl, by intros; rfl⟩
theorem vc_X0_ticksTillOut (E : zk_E) : zk_VC E (zk_VT E) M_X0_ticksTillOut (C_X0_ticksTillOut E) 4 (sp_X0_ticksTillOut E) := by
  intro av σ sz P PX h
  obtain ⟨J, N, Q, O, U⟩ := σ
  unfold sp_X0_ticksTillOut at h
  split at h
  case h_2 => exact h.elim
  rename_i a0 p w
  obtain ⟨rfl, h⟩ := h
  refine ⟨Nat.le_of_ble_eq_true rfl, fun G hG => ?_⟩
  change G 0 [some (.ref (zk_ad E 15)), some (.ref p), some (.ref w), none] [] ((J, N, Q, O, U), sz, 0, 0)
  try dsimp only at h
  obtain ⟨rfl, rfl, J1, N1, fl, door, wn, hmi, hxr, hfld, hwn, hwl, hwd, h⟩ := h
  have hx : ∀ A B, XR E sz (J, zk_un (zk_un N 17 B) 16 A, Q, O, U) J1 N1 fl := fun _ _ => hxr.cn rfl rfl
  have hw : ∀ A B, WLv J1 N1 (zk_un (zk_un N 17 B) 16 A) := fun _ _ => hwl
  have hd : ∀ A B, WDp J1 N1 (zk_un (zk_un N 17 B) 16 A) := fun _ _ => hwd
  have u2 : ∀ A B C D, zk_un (zk_un (zk_un (zk_un N 17 A) 16 B) 17 C) 16 D = zk_un (zk_un N 17 C) 16 D := fun A B C D => by rw [zk_un_sw (zk_un N 17 A) (by decide), zk_un_un, zk_un_un]
  have run : ∀ n f A B k, k + n = 1000000 → sumN f 20 ≤ 4000 → (∀ i, i < 20 → A i = nI (f i)) → (∀ A B, P (some (.int (nI (t_time J1 N1 door wn n f + k)))) (J, zk_un (zk_un N 17 B) 16 A, Q, O, U) sz) → G 7 [some (.ref (zk_ad E 15)), some (.ref (zk_ad E 1)), some (.ref (zk_ad E 7)), some (.int (nI k))] [] ((J, zk_un (zk_un N 17 B) 16 A, Q, O, U), sz, 0, 0) := by
    intro n
    induction n with
    | zero =>
      intro f A B k hk hf hA hP
      have c1 : (1000000 : Int32) ≤ nI k := (nI_le (a := 1000000) (by omega) (by omega) : nI 1000000 ≤ nI k)
      have h2 := hP A B
      rw [t_time, Nat.zero_add] at h2
      (refine hG 900 _ _ _ _ ?_; simp only [r_X0_ticksTillOut, zk_kl_none, zk_kl_int, zk_kl_ref, zk_kl_null, zk_kl_long, zk_kl_rf, zk_isr_ref, zk_isr_null, zk_isr_rf9, zk_c1_int, zk_c1_ref, zk_c1_null, zk_c1_rf, zk_psh_some, zk_psh_none, zk_nok_int, zk_nok_bool0, zk_nok_bool1, zk_nok_b, zk_fok_0, zk_fok_1, zk_fok_2, zk_fok_n, zk_fok_rf, zb_f, zb_p, zb_i, zb_a, zb_s, zk_nth_0, zk_nth_s, zk_fld_o, zk_put_o, zk_rv_eq, zk_ri_eq, zk_is_o, List.mem_cons, List.not_mem_nil, or_false, false_or, or_true, true_or, and_true, true_and, not_false_iff, not_true_eq_false, true_implies, false_implies, imp_self, implies_true, forall_const, zk_lit, zk_uj_ap, zk_un_ap, zk_un_un, zk_uj_uj, Nat.reduceEqDiff, eq_self, zk_bq, Bool.true_or, Bool.false_or, Nat.le_refl, Nat.zero_add, Nat.add_zero, Nat.reduceAdd, Nat.reduceLeDiff, Nat.le_zero_eq, and_self, and_false, false_and, ite_true, ite_false, Nat.zero_le, List.length_cons, List.length_nil, Option.some.injEq, forall_eq', reduceCtorEq, c1])
      exact h2
    | succ n ih =>
      intro f A B k hk hf hA hP
      have c1 : ¬ (1000000 : Int32) ≤ nI k := (nI_ge (b := 1000000) (by omega) (by decide) : ¬ nI 1000000 ≤ nI k)
      (refine hG 900 _ _ _ _ ?_; simp only [r_X0_ticksTillOut, zk_kl_none, zk_kl_int, zk_kl_ref, zk_kl_null, zk_kl_long, zk_kl_rf, zk_isr_ref, zk_isr_null, zk_isr_rf9, zk_c1_int, zk_c1_ref, zk_c1_null, zk_c1_rf, zk_psh_some, zk_psh_none, zk_nok_int, zk_nok_bool0, zk_nok_bool1, zk_nok_b, zk_fok_0, zk_fok_1, zk_fok_2, zk_fok_n, zk_fok_rf, zb_f, zb_p, zb_i, zb_a, zb_s, zk_nth_0, zk_nth_s, zk_fld_o, zk_put_o, zk_rv_eq, zk_ri_eq, zk_is_o, List.mem_cons, List.not_mem_nil, or_false, false_or, or_true, true_or, and_true, true_and, not_false_iff, not_true_eq_false, true_implies, false_implies, imp_self, implies_true, forall_const, zk_lit, zk_uj_ap, zk_un_ap, zk_un_un, zk_uj_uj, Nat.reduceEqDiff, eq_self, zk_bq, Bool.true_or, Bool.false_or, Nat.le_refl, Nat.zero_add, Nat.add_zero, Nat.reduceAdd, Nat.reduceLeDiff, Nat.le_zero_eq, and_self, and_false, false_and, ite_true, ite_false, Nat.zero_le, List.length_cons, List.length_nil, Option.some.injEq, forall_eq', reduceCtorEq, c1, spe_X0_isAnyToGo])
      refine ⟨J1, N1, f, hmi, hd A B, hA, hf, ?_⟩
      rw [t_time] at hP
      cases z : t_any J1 N1 f (m_nr J1) with
      | false =>
        have h2 := hP A B
        rw [z, if_neg (by decide), Nat.zero_add] at h2
        simp only [r_X0_ticksTillOut, zk_kl_none, zk_kl_int, zk_kl_ref, zk_kl_null, zk_kl_long, zk_kl_rf, zk_isr_ref, zk_isr_null, zk_isr_rf9, zk_c1_int, zk_c1_ref, zk_c1_null, zk_c1_rf, zk_psh_some, zk_psh_none, zk_nok_int, zk_nok_bool0, zk_nok_bool1, zk_nok_b, zk_fok_0, zk_fok_1, zk_fok_2, zk_fok_n, zk_fok_rf, zb_f, zb_p, zb_i, zb_a, zb_s, zk_nth_0, zk_nth_s, zk_fld_o, zk_put_o, zk_rv_eq, zk_ri_eq, zk_is_o, List.mem_cons, List.not_mem_nil, or_false, false_or, or_true, true_or, and_true, true_and, not_false_iff, not_true_eq_false, true_implies, false_implies, imp_self, implies_true, forall_const, zk_lit, zk_uj_ap, zk_un_ap, zk_un_un, zk_uj_uj, Nat.reduceEqDiff, eq_self, zk_bq, Bool.true_or, Bool.false_or, Nat.le_refl, Nat.zero_add, Nat.add_zero, Nat.reduceAdd, Nat.reduceLeDiff, Nat.le_zero_eq, and_self, and_false, false_and, ite_true, ite_false, Nat.zero_le, List.length_cons, List.length_nil, Option.some.injEq, forall_eq', reduceCtorEq, zk_b0]
        exact h2
      | true =>
        rw [z, if_pos rfl] at hP
        simp only [r_X0_ticksTillOut, zk_kl_none, zk_kl_int, zk_kl_ref, zk_kl_null, zk_kl_long, zk_kl_rf, zk_isr_ref, zk_isr_null, zk_isr_rf9, zk_c1_int, zk_c1_ref, zk_c1_null, zk_c1_rf, zk_psh_some, zk_psh_none, zk_nok_int, zk_nok_bool0, zk_nok_bool1, zk_nok_b, zk_fok_0, zk_fok_1, zk_fok_2, zk_fok_n, zk_fok_rf, zb_f, zb_p, zb_i, zb_a, zb_s, zk_nth_0, zk_nth_s, zk_fld_o, zk_put_o, zk_rv_eq, zk_ri_eq, zk_is_o, List.mem_cons, List.not_mem_nil, or_false, false_or, or_true, true_or, and_true, true_and, not_false_iff, not_true_eq_false, true_implies, false_implies, imp_self, implies_true, forall_const, zk_lit, zk_uj_ap, zk_un_ap, zk_un_un, zk_uj_uj, Nat.reduceEqDiff, eq_self, zk_bq, Bool.true_or, Bool.false_or, Nat.le_refl, Nat.zero_add, Nat.add_zero, Nat.reduceAdd, Nat.reduceLeDiff, Nat.le_zero_eq, and_self, and_false, false_and, ite_true, ite_false, Nat.zero_le, List.length_cons, List.length_nil, Option.some.injEq, forall_eq', reduceCtorEq, zk_b0, Bool.true_eq_false, spe_X0_doTick]
        refine ⟨J1, N1, fl, f, door, wn, hmi, hx A B, hfld, hwn, hw A B, hd A B, hA, hf, fun A2 B2 hA2 => ?_⟩
        rw [u2]
        have i2 := ih _ A2 B2 (k + 1) (by omega) (Nat.le_trans (t_tick_sum hmi) hf) hA2 (fun A B => by
          have := hP A B
          rwa [show t_time J1 N1 door wn n (t_tick J1 N1 door wn f) + 1 + k = t_time J1 N1 door wn n (t_tick J1 N1 door wn f) + (k + 1) by omega] at this)
        simp only [r_X0_ticksTillOut, zk_kl_none, zk_kl_int, zk_kl_ref, zk_kl_null, zk_kl_long, zk_kl_rf, zk_isr_ref, zk_isr_null, zk_isr_rf9, zk_c1_int, zk_c1_ref, zk_c1_null, zk_c1_rf, zk_psh_some, zk_psh_none, zk_nok_int, zk_nok_bool0, zk_nok_bool1, zk_nok_b, zk_fok_0, zk_fok_1, zk_fok_2, zk_fok_n, zk_fok_rf, zb_f, zb_p, zb_i, zb_a, zb_s, zk_nth_0, zk_nth_s, zk_fld_o, zk_put_o, zk_rv_eq, zk_ri_eq, zk_is_o, List.mem_cons, List.not_mem_nil, or_false, false_or, or_true, true_or, and_true, true_and, not_false_iff, not_true_eq_false, true_implies, false_implies, imp_self, implies_true, forall_const, zk_lit, zk_uj_ap, zk_un_ap, zk_un_un, zk_uj_uj, Nat.reduceEqDiff, eq_self, zk_bq, Bool.true_or, Bool.false_or, Nat.le_refl, Nat.zero_add, Nat.add_zero, Nat.reduceAdd, Nat.reduceLeDiff, Nat.le_zero_eq, and_self, and_false, false_and, ite_true, ite_false, Nat.zero_le, List.length_cons, List.length_nil, Option.some.injEq, forall_eq', reduceCtorEq, n_succ]
        exact i2
  (refine hG 900 _ _ _ _ ?_; simp only [r_X0_ticksTillOut, zk_kl_none, zk_kl_int, zk_kl_ref, zk_kl_null, zk_kl_long, zk_kl_rf, zk_isr_ref, zk_isr_null, zk_isr_rf9, zk_c1_int, zk_c1_ref, zk_c1_null, zk_c1_rf, zk_psh_some, zk_psh_none, zk_nok_int, zk_nok_bool0, zk_nok_bool1, zk_nok_b, zk_fok_0, zk_fok_1, zk_fok_2, zk_fok_n, zk_fok_rf, zb_f, zb_p, zb_i, zb_a, zb_s, zk_nth_0, zk_nth_s, zk_fld_o, zk_put_o, zk_rv_eq, zk_ri_eq, zk_is_o, List.mem_cons, List.not_mem_nil, or_false, false_or, or_true, true_or, and_true, true_and, not_false_iff, not_true_eq_false, true_implies, false_implies, imp_self, implies_true, forall_const, zk_lit, zk_uj_ap, zk_un_ap, zk_un_un, zk_uj_uj, Nat.reduceEqDiff, eq_self, zk_bq, Bool.true_or, Bool.false_or, Nat.le_refl, Nat.zero_add, Nat.add_zero, Nat.reduceAdd, Nat.reduceLeDiff, Nat.le_zero_eq, and_self, and_false, false_and, ite_true, ite_false, Nat.zero_le, List.length_cons, List.length_nil, Option.some.injEq, forall_eq', reduceCtorEq, spe_X0_gather])
  refine ⟨J1, N1, fl, hmi, hxr, fun A hA => ?_⟩
  have l0 := run 1000000 (g_p J1 N1) A (N 17) 0 (by omega) (g_p_sum hmi) hA (fun A B => h A B)
  rw [zk_un_self N 17, show nI 0 = 0 from rfl] at l0
  exact l0
theorem ct_X0_ticksTillOut {l : Launch} (hl : l.stackTraces = false) (E : zk_E) : zk_C l E (zk_VT E) yX0_ticksTillOut cX0_ticksTillOut 4 (some (.int)) rm_X0_ticksTillOut (sp_X0_ticksTillOut E) := by
  refine zk_meth (M := M_X0_ticksTillOut) (C := C_X0_ticksTillOut E) hl (by decide +kernel) rfl (fun _ _ => rfl) (zk_VT_ok E) MO_X0_ticksTillOut TO_X0_ticksTillOut THo_X0_ticksTillOut ?_ (vc_X0_ticksTillOut E)
  exact fun p e s m args below meth c X pc n mc ms sp2 h => by
    have h2 := zk_lka_mem h
    simp only [List.mem_cons, List.not_mem_nil, or_false, Prod.mk.injEq] at h2
    rcases h2 with ⟨rfl, rfl, rfl, rfl, rfl⟩ | ⟨rfl, rfl, rfl, rfl, rfl⟩ | ⟨rfl, rfl, rfl, rfl, rfl⟩
    · exact zk_coV (idx := 30) X (ct_X0_gather hl E) (List.forall_mem_cons.mpr ⟨zk_wi 261 (by decide +kernel) rfl, List.forall_mem_cons.mpr ⟨zk_wi 262 (by decide +kernel) rfl, List.forall_mem_cons.mpr ⟨zk_wi 263 (by decide +kernel) rfl, List.forall_mem_cons.mpr ⟨zk_wi 5 (by decide +kernel) rfl, List.forall_mem_cons.mpr ⟨zk_wi 264 (by decide +kernel) rfl, fun _ h => absurd h List.not_mem_nil⟩⟩⟩⟩⟩) (fun ci h => by
      have h := Nat.eq_of_beq_eq_true h
      subst h
      exact ⟨_, _, rfl⟩) (by decide +kernel) ⟨by decide, by decide, by decide +kernel⟩ ⟨by decide, by decide⟩
    · exact zk_coV (idx := 34) X (ct_X0_isAnyToGo hl E) (List.forall_mem_cons.mpr ⟨zk_wi 266 (by decide +kernel) rfl, List.forall_mem_cons.mpr ⟨zk_wi 267 (by decide +kernel) rfl, List.forall_mem_cons.mpr ⟨zk_wi 268 (by decide +kernel) rfl, List.forall_mem_cons.mpr ⟨zk_wi 5 (by decide +kernel) rfl, List.forall_mem_cons.mpr ⟨zk_wi 269 (by decide +kernel) rfl, fun _ h => absurd h List.not_mem_nil⟩⟩⟩⟩⟩) (fun ci h => by
      have h := Nat.eq_of_beq_eq_true h
      subst h
      exact ⟨_, _, rfl⟩) (by decide +kernel) ⟨by decide, by decide, by decide +kernel⟩ ⟨by decide, by decide⟩
    · exact zk_coV (idx := 38) X (ct_X0_doTick hl E) (List.forall_mem_cons.mpr ⟨zk_wi 270 (by decide +kernel) rfl, List.forall_mem_cons.mpr ⟨zk_wi 271 (by decide +kernel) rfl, List.forall_mem_cons.mpr ⟨zk_wi 272 (by decide +kernel) rfl, List.forall_mem_cons.mpr ⟨zk_wi 5 (by decide +kernel) rfl, List.forall_mem_cons.mpr ⟨zk_wi 273 (by decide +kernel) rfl, fun _ h => absurd h List.not_mem_nil⟩⟩⟩⟩⟩) (fun ci h => by
      have h := Nat.eq_of_beq_eq_true h
      subst h
      exact ⟨_, _, rfl⟩) (by decide +kernel) ⟨by decide, by decide, by decide +kernel⟩ ⟨by decide, by decide⟩
def sp_X0_goOn (E : zk_E) : zk_Sp zk_S := fun av σ sz P PX => match av with
  | [.ref a, .ref p, .ref w, .int n] => a = zk_ad E 15 ∧ p = zk_ad E 1 ∧ w = zk_ad E 7 ∧ ∃ J N fl t, MI J N ∧ XR E sz σ J N fl ∧ FLD J N fl (-1) 0 ∧ WLv J N σ.2.1 ∧ WDp J N σ.2.1 ∧ t ≤ 999 ∧ n = nI t ∧ ∀ A B, (∀ i, i < 20 → A i = nI (t_beh J N t (g_p J N) i)) → P none (σ.1, zk_un (zk_un σ.2.1 17 B) 16 A, σ.2.2) sz
  | _ => False
theorem spe_X0_goOn (E : zk_E) (a : Nat) (p : Nat) (w : Nat) (n : Int32) (σ : zk_S) (sz : Nat) (P : zk_P zk_S) (PX : zk_X zk_S) : sp_X0_goOn E [.ref a, .ref p, .ref w, .int n] σ sz P PX = (a = zk_ad E 15 ∧ p = zk_ad E 1 ∧ w = zk_ad E 7 ∧ ∃ J N fl t, MI J N ∧ XR E sz σ J N fl ∧ FLD J N fl (-1) 0 ∧ WLv J N σ.2.1 ∧ WDp J N σ.2.1 ∧ t ≤ 999 ∧ n = nI t ∧ ∀ A B, (∀ i, i < 20 → A i = nI (t_beh J N t (g_p J N) i)) → P none (σ.1, zk_un (zk_un σ.2.1 17 B) 16 A, σ.2.2) sz) := propext Iff.rfl
def C_X0_goOn (E : zk_E) : zk_Cl zk_S := zk_lka [(2, 2, 0, 0, zk_rv (zk_VT E) (fun ci => Nat.beq ci 0) (sp_X0_gather E)), (16, 2, 0, 0, zk_rv (zk_VT E) (fun ci => Nat.beq ci 0) (sp_X0_isAnyToGo E)), (25, 3, 0, 0, zk_rv (zk_VT E) (fun ci => Nat.beq ci 0) (sp_X0_doTick E))]
theorem r_X0_goOn (E : zk_E) (P : zk_P zk_S) (PX : zk_X zk_S) (K : Nat → zk_L → List Value → zk_W zk_S → Prop) : (∀ (n : Nat) (l1 l2 l3 l4 : Option Value) (y0 : Value) (r : List Value) (σ : zk_S) (sz k c : Nat), zk_run E (zk_VT E) M_X0_goOn (C_X0_goOn E) P PX K (n + 1) 0 [some y0, l1, l2, l3, l4] r (σ, sz, k, c) = (zk_isr y0 ∧ zk_run E (zk_VT E) M_X0_goOn (C_X0_goOn E) P PX K n 1 [some y0, l1, l2, l3, l4] (y0 :: r) (σ, sz, k, c))) ∧
  (∀ (n : Nat) (l0 l2 l3 l4 : Option Value) (y1 : Value) (r : List Value) (σ : zk_S) (sz k c : Nat), zk_run E (zk_VT E) M_X0_goOn (C_X0_goOn E) P PX K (n + 1) 1 [l0, some y1, l2, l3, l4] r (σ, sz, k, c) = (zk_isr y1 ∧ zk_run E (zk_VT E) M_X0_goOn (C_X0_goOn E) P PX K n 2 [l0, some y1, l2, l3, l4] (y1 :: r) (σ, sz, k, c))) ∧
  (∀ (n : Nat) (l0 l1 l2 l3 l4 : Option Value) (v0 : Value) (v1 : Value)  (σ : zk_S) (sz k c : Nat), zk_run E (zk_VT E) M_X0_goOn (C_X0_goOn E) P PX K (n + 1) 2 [l0, l1, l2, l3, l4] [v0, v1] (σ, sz, k, c) = (k + 0 ≤ 0 ∧ c + 0 ≤ 0 ∧ (zk_rv (zk_VT E) (fun ci => Nat.beq ci 0) (sp_X0_gather E)) [v1, v0] σ sz (fun v s2 z2 => zk_run E (zk_VT E) M_X0_goOn (C_X0_goOn E) P PX K n 5 [l0, l1, l2, l3, l4] (zk_psh v []) (s2, z2, k + 0, c + 0)) (fun X s2 z2 => PX X s2 z2))) ∧
  (∀ (n : Nat) (l0 l1 l2 l3 l4 : Option Value)  (r : List Value) (σ : zk_S) (sz k c : Nat), zk_run E (zk_VT E) M_X0_goOn (C_X0_goOn E) P PX K (n + 1) 5 [l0, l1, l2, l3, l4] r (σ, sz, k, c) = zk_run E (zk_VT E) M_X0_goOn (C_X0_goOn E) P PX K n 6 [l0, l1, l2, l3, l4] (.int (0) :: r) (σ, sz, k, c)) ∧
  (∀ (n : Nat) (l0 l1 l2 l3 l4 : Option Value) (x : Int32) (r : List Value) (σ : zk_S) (sz k c : Nat), zk_run E (zk_VT E) M_X0_goOn (C_X0_goOn E) P PX K (n + 1) 6 [l0, l1, l2, l3, l4] (.int x :: r) (σ, sz, k, c) = zk_run E (zk_VT E) M_X0_goOn (C_X0_goOn E) P PX K n 8 [l0, l1, l2, zk_kl l3, some (.int x)] r (σ, sz, k, c)) ∧
  (∀ (n : Nat) (l0 l1 l2 l3 l4 : Option Value)  (r : List Value) (σ : zk_S) (sz k c : Nat), zk_run E (zk_VT E) M_X0_goOn (C_X0_goOn E) P PX K (n + 1) 8 [l0, l1, l2, l3, l4] r (σ, sz, k, c) = K 8 [l0, l1, l2, l3, l4] r (σ, sz, k, c)) ∧
  (∀ (n : Nat) (l0 l1 l2 l4 : Option Value) (y3 : Int32) (r : List Value) (σ : zk_S) (sz k c : Nat), zk_run E (zk_VT E) M_X0_goOn (C_X0_goOn E) P PX K (n + 1) 10 [l0, l1, l2, some (.int y3), l4] r (σ, sz, k, c) = zk_run E (zk_VT E) M_X0_goOn (C_X0_goOn E) P PX K n 11 [l0, l1, l2, some (.int y3), l4] (.int y3 :: r) (σ, sz, k, c)) ∧
  (∀ (n : Nat) (l0 l1 l2 l3 l4 : Option Value) (x y : Int32) (r : List Value) (σ : zk_S) (sz k c : Nat), zk_run E (zk_VT E) M_X0_goOn (C_X0_goOn E) P PX K (n + 1) 11 [l0, l1, l2, l3, l4] (.int y :: .int x :: r) (σ, sz, k, c) = ((y ≤ x → zk_run E (zk_VT E) M_X0_goOn (C_X0_goOn E) P PX K n 34 [l0, l1, l2, l3, l4] r (σ, sz, k, c)) ∧ (¬ (y ≤ x) → zk_run E (zk_VT E) M_X0_goOn (C_X0_goOn E) P PX K n 14 [l0, l1, l2, l3, l4] r (σ, sz, k, c)))) ∧
  (∀ (n : Nat) (l1 l2 l3 l4 : Option Value) (y0 : Value) (r : List Value) (σ : zk_S) (sz k c : Nat), zk_run E (zk_VT E) M_X0_goOn (C_X0_goOn E) P PX K (n + 1) 14 [some y0, l1, l2, l3, l4] r (σ, sz, k, c) = (zk_isr y0 ∧ zk_run E (zk_VT E) M_X0_goOn (C_X0_goOn E) P PX K n 15 [some y0, l1, l2, l3, l4] (y0 :: r) (σ, sz, k, c))) ∧
  (∀ (n : Nat) (l0 l1 l3 l4 : Option Value) (y2 : Value) (r : List Value) (σ : zk_S) (sz k c : Nat), zk_run E (zk_VT E) M_X0_goOn (C_X0_goOn E) P PX K (n + 1) 15 [l0, l1, some y2, l3, l4] r (σ, sz, k, c) = (zk_isr y2 ∧ zk_run E (zk_VT E) M_X0_goOn (C_X0_goOn E) P PX K n 16 [l0, l1, some y2, l3, l4] (y2 :: r) (σ, sz, k, c))) ∧
  (∀ (n : Nat) (l0 l1 l2 l3 l4 : Option Value) (v0 : Value) (v1 : Value)  (σ : zk_S) (sz k c : Nat), zk_run E (zk_VT E) M_X0_goOn (C_X0_goOn E) P PX K (n + 1) 16 [l0, l1, l2, l3, l4] [v0, v1] (σ, sz, k, c) = (k + 0 ≤ 0 ∧ c + 0 ≤ 0 ∧ (zk_rv (zk_VT E) (fun ci => Nat.beq ci 0) (sp_X0_isAnyToGo E)) [v1, v0] σ sz (fun v s2 z2 => zk_run E (zk_VT E) M_X0_goOn (C_X0_goOn E) P PX K n 19 [l0, l1, l2, l3, l4] (zk_psh v []) (s2, z2, k + 0, c + 0)) (fun X s2 z2 => PX X s2 z2))) ∧
  (∀ (n : Nat) (l0 l1 l2 l3 l4 : Option Value) (x : Int32) (r : List Value) (σ : zk_S) (sz k c : Nat), zk_run E (zk_VT E) M_X0_goOn (C_X0_goOn E) P PX K (n + 1) 19 [l0, l1, l2, l3, l4] (.int x :: r) (σ, sz, k, c) = ((x = 0 → zk_run E (zk_VT E) M_X0_goOn (C_X0_goOn E) P PX K n 34 [l0, l1, l2, l3, l4] r (σ, sz, k, c)) ∧ (¬ (x = 0) → zk_run E (zk_VT E) M_X0_goOn (C_X0_goOn E) P PX K n 22 [l0, l1, l2, l3, l4] r (σ, sz, k, c)))) ∧
  (∀ (n : Nat) (l1 l2 l3 l4 : Option Value) (y0 : Value) (r : List Value) (σ : zk_S) (sz k c : Nat), zk_run E (zk_VT E) M_X0_goOn (C_X0_goOn E) P PX K (n + 1) 22 [some y0, l1, l2, l3, l4] r (σ, sz, k, c) = (zk_isr y0 ∧ zk_run E (zk_VT E) M_X0_goOn (C_X0_goOn E) P PX K n 23 [some y0, l1, l2, l3, l4] (y0 :: r) (σ, sz, k, c))) ∧
  (∀ (n : Nat) (l0 l2 l3 l4 : Option Value) (y1 : Value) (r : List Value) (σ : zk_S) (sz k c : Nat), zk_run E (zk_VT E) M_X0_goOn (C_X0_goOn E) P PX K (n + 1) 23 [l0, some y1, l2, l3, l4] r (σ, sz, k, c) = (zk_isr y1 ∧ zk_run E (zk_VT E) M_X0_goOn (C_X0_goOn E) P PX K n 24 [l0, some y1, l2, l3, l4] (y1 :: r) (σ, sz, k, c))) ∧
  (∀ (n : Nat) (l0 l1 l3 l4 : Option Value) (y2 : Value) (r : List Value) (σ : zk_S) (sz k c : Nat), zk_run E (zk_VT E) M_X0_goOn (C_X0_goOn E) P PX K (n + 1) 24 [l0, l1, some y2, l3, l4] r (σ, sz, k, c) = (zk_isr y2 ∧ zk_run E (zk_VT E) M_X0_goOn (C_X0_goOn E) P PX K n 25 [l0, l1, some y2, l3, l4] (y2 :: r) (σ, sz, k, c))) ∧
  (∀ (n : Nat) (l0 l1 l2 l3 l4 : Option Value) (v0 : Value) (v1 : Value) (v2 : Value)  (σ : zk_S) (sz k c : Nat), zk_run E (zk_VT E) M_X0_goOn (C_X0_goOn E) P PX K (n + 1) 25 [l0, l1, l2, l3, l4] [v0, v1, v2] (σ, sz, k, c) = (k + 0 ≤ 0 ∧ c + 0 ≤ 0 ∧ (zk_rv (zk_VT E) (fun ci => Nat.beq ci 0) (sp_X0_doTick E)) [v2, v1, v0] σ sz (fun v s2 z2 => zk_run E (zk_VT E) M_X0_goOn (C_X0_goOn E) P PX K n 28 [l0, l1, l2, l3, l4] (zk_psh v []) (s2, z2, k + 0, c + 0)) (fun X s2 z2 => PX X s2 z2))) ∧
  (∀ (n : Nat) (l0 l1 l2 l3 : Option Value) (y4 : Int32) (r : List Value) (σ : zk_S) (sz k c : Nat), zk_run E (zk_VT E) M_X0_goOn (C_X0_goOn E) P PX K (n + 1) 28 [l0, l1, l2, l3, some (.int y4)] r (σ, sz, k, c) = zk_run E (zk_VT E) M_X0_goOn (C_X0_goOn E) P PX K n 31 [l0, l1, l2, zk_kl l3, some (.int (y4 + 1))] r (σ, sz, k, c)) ∧
  (∀ (n : Nat) (l0 l1 l2 l3 l4 : Option Value)  (r : List Value) (σ : zk_S) (sz k c : Nat), zk_run E (zk_VT E) M_X0_goOn (C_X0_goOn E) P PX K (n + 1) 31 [l0, l1, l2, l3, l4] r (σ, sz, k, c) = zk_run E (zk_VT E) M_X0_goOn (C_X0_goOn E) P PX K n 8 [l0, l1, l2, l3, l4] r (σ, sz, k, c)) ∧
  (∀ (n : Nat) (l0 l1 l2 l3 l4 : Option Value)   (σ : zk_S) (sz k c : Nat), zk_run E (zk_VT E) M_X0_goOn (C_X0_goOn E) P PX K (n + 1) 34 [l0, l1, l2, l3, l4] [] (σ, sz, k, c) = (P none σ sz ∧ k ≤ 0 ∧ c ≤ 0)) ∧
  (∀ (n : Nat) (l0 l1 l2 l3 l4 : Option Value) (r : List Value) (w : zk_W zk_S), zk_go E (zk_VT E) M_X0_goOn (C_X0_goOn E) P PX K n 0 [l0, l1, l2, l3, l4] r w = zk_run E (zk_VT E) M_X0_goOn (C_X0_goOn E) P PX K (n + 1) 0 [l0, l1, l2, l3, l4] r w) ∧
  (∀ (n : Nat) (l0 l1 l2 l3 : Option Value) (y4 : Int32) (r : List Value) (σ : zk_S) (sz k c : Nat), zk_go E (zk_VT E) M_X0_goOn (C_X0_goOn E) P PX K n 8 [l0, l1, l2, l3, some (.int y4)] r (σ, sz, k, c) = zk_run E (zk_VT E) M_X0_goOn (C_X0_goOn E) P PX K n 10 [l0, l1, l2, l3, some (.int y4)] (.int y4 :: r) (σ, sz, k, c)) := ⟨by intros; rfl, by intros; rfl, by intros; rfl, by intros; rfl, by intros; rfl, by intros; rfl, by intros; rfl, by intros; rfl, by intros; rfl, by intros; rfl, by intros; rfl, by intros; rfl, by intros; rfl, by intros; rfl, by intros; rfl, by intros; rfl, by intros; rfl, by intros; rfl, by intros; rfl, by intros; rfl, by intros; rfl⟩
theorem vc_X0_goOn (E : zk_E) : zk_VC E (zk_VT E) M_X0_goOn (C_X0_goOn E) 5 (sp_X0_goOn E) := by
  intro av σ sz P PX h
  obtain ⟨J, N, Q, O, U⟩ := σ
  unfold sp_X0_goOn at h
  split at h
  case h_2 => exact h.elim
  rename_i a0 p w n
  obtain ⟨rfl, h⟩ := h
  refine ⟨Nat.le_of_ble_eq_true rfl, fun G hG => ?_⟩
  change G 0 [some (.ref (zk_ad E 15)), some (.ref p), some (.ref w), some (.int n), none] [] ((J, N, Q, O, U), sz, 0, 0)
  try dsimp only at h
  obtain ⟨rfl, rfl, J1, N1, fl, t, hmi, hxr, hfld, hwl, hwd, ht, rfl, h⟩ := h
  have hx : ∀ A B, XR E sz (J, zk_un (zk_un N 17 B) 16 A, Q, O, U) J1 N1 fl := fun _ _ => hxr.cn rfl rfl
  have hw : ∀ A B, WLv J1 N1 (zk_un (zk_un N 17 B) 16 A) := fun _ _ => hwl
  have hd : ∀ A B, WDp J1 N1 (zk_un (zk_un N 17 B) 16 A) := fun _ _ => hwd
  have u2 : ∀ A B C D, zk_un (zk_un (zk_un (zk_un N 17 A) 16 B) 17 C) 16 D = zk_un (zk_un N 17 C) 16 D := fun A B C D => by rw [zk_un_sw (zk_un N 17 A) (by decide), zk_un_un, zk_un_un]
  have run : ∀ n f A B k, k + n = t → sumN f 20 ≤ 4000 → (∀ i, i < 20 → A i = nI (f i)) → t_beh J1 N1 n f = t_beh J1 N1 t (g_p J1 N1) → G 8 [some (.ref (zk_ad E 15)), some (.ref (zk_ad E 1)), some (.ref (zk_ad E 7)), some (.int (nI t)), some (.int (nI k))] [] ((J, zk_un (zk_un N 17 B) 16 A, Q, O, U), sz, 0, 0) := by
    intro n
    induction n with
    | zero =>
      intro f A B k hk hf hA hP
      have c1 : nI t ≤ nI k := nI_le (by omega) (by omega)
      have h2 := h A B (fun i hi => by rw [← hP]; exact hA i hi)
      (refine hG 900 _ _ _ _ ?_; simp only [r_X0_goOn, zk_kl_none, zk_kl_int, zk_kl_ref, zk_kl_null, zk_kl_long, zk_kl_rf, zk_isr_ref, zk_isr_null, zk_isr_rf9, zk_c1_int, zk_c1_ref, zk_c1_null, zk_c1_rf, zk_psh_some, zk_psh_none, zk_nok_int, zk_nok_bool0, zk_nok_bool1, zk_nok_b, zk_fok_0, zk_fok_1, zk_fok_2, zk_fok_n, zk_fok_rf, zb_f, zb_p, zb_i, zb_a, zb_s, zk_nth_0, zk_nth_s, zk_fld_o, zk_put_o, zk_rv_eq, zk_ri_eq, zk_is_o, List.mem_cons, List.not_mem_nil, or_false, false_or, or_true, true_or, and_true, true_and, not_false_iff, not_true_eq_false, true_implies, false_implies, imp_self, implies_true, forall_const, zk_lit, zk_uj_ap, zk_un_ap, zk_un_un, zk_uj_uj, Nat.reduceEqDiff, eq_self, zk_bq, Bool.true_or, Bool.false_or, Nat.le_refl, Nat.zero_add, Nat.add_zero, Nat.reduceAdd, Nat.reduceLeDiff, Nat.le_zero_eq, and_self, and_false, false_and, ite_true, ite_false, Nat.zero_le, List.length_cons, List.length_nil, Option.some.injEq, forall_eq', reduceCtorEq, c1])
      exact h2
    | succ n ih =>
      intro f A B k hk hf hA hP
      have c1 : ¬ nI t ≤ nI k := nI_ge (by omega) (by omega)
      (refine hG 900 _ _ _ _ ?_; simp only [r_X0_goOn, zk_kl_none, zk_kl_int, zk_kl_ref, zk_kl_null, zk_kl_long, zk_kl_rf, zk_isr_ref, zk_isr_null, zk_isr_rf9, zk_c1_int, zk_c1_ref, zk_c1_null, zk_c1_rf, zk_psh_some, zk_psh_none, zk_nok_int, zk_nok_bool0, zk_nok_bool1, zk_nok_b, zk_fok_0, zk_fok_1, zk_fok_2, zk_fok_n, zk_fok_rf, zb_f, zb_p, zb_i, zb_a, zb_s, zk_nth_0, zk_nth_s, zk_fld_o, zk_put_o, zk_rv_eq, zk_ri_eq, zk_is_o, List.mem_cons, List.not_mem_nil, or_false, false_or, or_true, true_or, and_true, true_and, not_false_iff, not_true_eq_false, true_implies, false_implies, imp_self, implies_true, forall_const, zk_lit, zk_uj_ap, zk_un_ap, zk_un_un, zk_uj_uj, Nat.reduceEqDiff, eq_self, zk_bq, Bool.true_or, Bool.false_or, Nat.le_refl, Nat.zero_add, Nat.add_zero, Nat.reduceAdd, Nat.reduceLeDiff, Nat.le_zero_eq, and_self, and_false, false_and, ite_true, ite_false, Nat.zero_le, List.length_cons, List.length_nil, Option.some.injEq, forall_eq', reduceCtorEq, c1, spe_X0_isAnyToGo])
      refine ⟨J1, N1, f, hmi, hd A B, hA, hf, ?_⟩
      cases z : t_any J1 N1 f (m_nr J1) with
      | false =>
        have h2 := h A B (fun i hi => by rw [← hP, t_beh_none _ _ z]; exact hA i hi)
        simp only [r_X0_goOn, zk_kl_none, zk_kl_int, zk_kl_ref, zk_kl_null, zk_kl_long, zk_kl_rf, zk_isr_ref, zk_isr_null, zk_isr_rf9, zk_c1_int, zk_c1_ref, zk_c1_null, zk_c1_rf, zk_psh_some, zk_psh_none, zk_nok_int, zk_nok_bool0, zk_nok_bool1, zk_nok_b, zk_fok_0, zk_fok_1, zk_fok_2, zk_fok_n, zk_fok_rf, zb_f, zb_p, zb_i, zb_a, zb_s, zk_nth_0, zk_nth_s, zk_fld_o, zk_put_o, zk_rv_eq, zk_ri_eq, zk_is_o, List.mem_cons, List.not_mem_nil, or_false, false_or, or_true, true_or, and_true, true_and, not_false_iff, not_true_eq_false, true_implies, false_implies, imp_self, implies_true, forall_const, zk_lit, zk_uj_ap, zk_un_ap, zk_un_un, zk_uj_uj, Nat.reduceEqDiff, eq_self, zk_bq, Bool.true_or, Bool.false_or, Nat.le_refl, Nat.zero_add, Nat.add_zero, Nat.reduceAdd, Nat.reduceLeDiff, Nat.le_zero_eq, and_self, and_false, false_and, ite_true, ite_false, Nat.zero_le, List.length_cons, List.length_nil, Option.some.injEq, forall_eq', reduceCtorEq, zk_b0]
        exact h2
      | true =>
        rw [t_beh] at hP
        simp only [r_X0_goOn, zk_kl_none, zk_kl_int, zk_kl_ref, zk_kl_null, zk_kl_long, zk_kl_rf, zk_isr_ref, zk_isr_null, zk_isr_rf9, zk_c1_int, zk_c1_ref, zk_c1_null, zk_c1_rf, zk_psh_some, zk_psh_none, zk_nok_int, zk_nok_bool0, zk_nok_bool1, zk_nok_b, zk_fok_0, zk_fok_1, zk_fok_2, zk_fok_n, zk_fok_rf, zb_f, zb_p, zb_i, zb_a, zb_s, zk_nth_0, zk_nth_s, zk_fld_o, zk_put_o, zk_rv_eq, zk_ri_eq, zk_is_o, List.mem_cons, List.not_mem_nil, or_false, false_or, or_true, true_or, and_true, true_and, not_false_iff, not_true_eq_false, true_implies, false_implies, imp_self, implies_true, forall_const, zk_lit, zk_uj_ap, zk_un_ap, zk_un_un, zk_uj_uj, Nat.reduceEqDiff, eq_self, zk_bq, Bool.true_or, Bool.false_or, Nat.le_refl, Nat.zero_add, Nat.add_zero, Nat.reduceAdd, Nat.reduceLeDiff, Nat.le_zero_eq, and_self, and_false, false_and, ite_true, ite_false, Nat.zero_le, List.length_cons, List.length_nil, Option.some.injEq, forall_eq', reduceCtorEq, zk_b0, Bool.true_eq_false, spe_X0_doTick]
        refine ⟨J1, N1, fl, f, -1, 0, hmi, hx A B, hfld, by decide, hw A B, hd A B, hA, hf, fun A2 B2 hA2 => ?_⟩
        rw [u2]
        have i2 := ih _ A2 B2 (k + 1) (by omega) (Nat.le_trans (t_tick_sum hmi) hf) hA2 hP
        simp only [r_X0_goOn, zk_kl_none, zk_kl_int, zk_kl_ref, zk_kl_null, zk_kl_long, zk_kl_rf, zk_isr_ref, zk_isr_null, zk_isr_rf9, zk_c1_int, zk_c1_ref, zk_c1_null, zk_c1_rf, zk_psh_some, zk_psh_none, zk_nok_int, zk_nok_bool0, zk_nok_bool1, zk_nok_b, zk_fok_0, zk_fok_1, zk_fok_2, zk_fok_n, zk_fok_rf, zb_f, zb_p, zb_i, zb_a, zb_s, zk_nth_0, zk_nth_s, zk_fld_o, zk_put_o, zk_rv_eq, zk_ri_eq, zk_is_o, List.mem_cons, List.not_mem_nil, or_false, false_or, or_true, true_or, and_true, true_and, not_false_iff, not_true_eq_false, true_implies, false_implies, imp_self, implies_true, forall_const, zk_lit, zk_uj_ap, zk_un_ap, zk_un_un, zk_uj_uj, Nat.reduceEqDiff, eq_self, zk_bq, Bool.true_or, Bool.false_or, Nat.le_refl, Nat.zero_add, Nat.add_zero, Nat.reduceAdd, Nat.reduceLeDiff, Nat.le_zero_eq, and_self, and_false, false_and, ite_true, ite_false, Nat.zero_le, List.length_cons, List.length_nil, Option.some.injEq, forall_eq', reduceCtorEq, n_succ]
        exact i2
  (refine hG 900 _ _ _ _ ?_; simp only [r_X0_goOn, zk_kl_none, zk_kl_int, zk_kl_ref, zk_kl_null, zk_kl_long, zk_kl_rf, zk_isr_ref, zk_isr_null, zk_isr_rf9, zk_c1_int, zk_c1_ref, zk_c1_null, zk_c1_rf, zk_psh_some, zk_psh_none, zk_nok_int, zk_nok_bool0, zk_nok_bool1, zk_nok_b, zk_fok_0, zk_fok_1, zk_fok_2, zk_fok_n, zk_fok_rf, zb_f, zb_p, zb_i, zb_a, zb_s, zk_nth_0, zk_nth_s, zk_fld_o, zk_put_o, zk_rv_eq, zk_ri_eq, zk_is_o, List.mem_cons, List.not_mem_nil, or_false, false_or, or_true, true_or, and_true, true_and, not_false_iff, not_true_eq_false, true_implies, false_implies, imp_self, implies_true, forall_const, zk_lit, zk_uj_ap, zk_un_ap, zk_un_un, zk_uj_uj, Nat.reduceEqDiff, eq_self, zk_bq, Bool.true_or, Bool.false_or, Nat.le_refl, Nat.zero_add, Nat.add_zero, Nat.reduceAdd, Nat.reduceLeDiff, Nat.le_zero_eq, and_self, and_false, false_and, ite_true, ite_false, Nat.zero_le, List.length_cons, List.length_nil, Option.some.injEq, forall_eq', reduceCtorEq, spe_X0_gather])
  refine ⟨J1, N1, fl, hmi, hxr, fun A hA => ?_⟩
  have l0 := run t (g_p J1 N1) A (N 17) 0 (by omega) (g_p_sum hmi) hA rfl
  rw [zk_un_self N 17, show nI 0 = 0 from rfl] at l0
  exact l0
theorem ct_X0_goOn {l : Launch} (hl : l.stackTraces = false) (E : zk_E) : zk_C l E (zk_VT E) yX0_goOn cX0_goOn 5 (none) rm_X0_goOn (sp_X0_goOn E) := by
  refine zk_meth (M := M_X0_goOn) (C := C_X0_goOn E) hl (by decide +kernel) rfl (fun _ _ => rfl) (zk_VT_ok E) MO_X0_goOn TO_X0_goOn THo_X0_goOn ?_ (vc_X0_goOn E)
  exact fun p e s m args below meth c X pc n mc ms sp2 h => by
    have h2 := zk_lka_mem h
    simp only [List.mem_cons, List.not_mem_nil, or_false, Prod.mk.injEq] at h2
    rcases h2 with ⟨rfl, rfl, rfl, rfl, rfl⟩ | ⟨rfl, rfl, rfl, rfl, rfl⟩ | ⟨rfl, rfl, rfl, rfl, rfl⟩
    · exact zk_coV (idx := 30) X (ct_X0_gather hl E) (List.forall_mem_cons.mpr ⟨zk_wi 261 (by decide +kernel) rfl, List.forall_mem_cons.mpr ⟨zk_wi 262 (by decide +kernel) rfl, List.forall_mem_cons.mpr ⟨zk_wi 263 (by decide +kernel) rfl, List.forall_mem_cons.mpr ⟨zk_wi 5 (by decide +kernel) rfl, List.forall_mem_cons.mpr ⟨zk_wi 264 (by decide +kernel) rfl, fun _ h => absurd h List.not_mem_nil⟩⟩⟩⟩⟩) (fun ci h => by
      have h := Nat.eq_of_beq_eq_true h
      subst h
      exact ⟨_, _, rfl⟩) (by decide +kernel) ⟨by decide, by decide, by decide +kernel⟩ ⟨by decide, by decide⟩
    · exact zk_coV (idx := 34) X (ct_X0_isAnyToGo hl E) (List.forall_mem_cons.mpr ⟨zk_wi 266 (by decide +kernel) rfl, List.forall_mem_cons.mpr ⟨zk_wi 267 (by decide +kernel) rfl, List.forall_mem_cons.mpr ⟨zk_wi 268 (by decide +kernel) rfl, List.forall_mem_cons.mpr ⟨zk_wi 5 (by decide +kernel) rfl, List.forall_mem_cons.mpr ⟨zk_wi 269 (by decide +kernel) rfl, fun _ h => absurd h List.not_mem_nil⟩⟩⟩⟩⟩) (fun ci h => by
      have h := Nat.eq_of_beq_eq_true h
      subst h
      exact ⟨_, _, rfl⟩) (by decide +kernel) ⟨by decide, by decide, by decide +kernel⟩ ⟨by decide, by decide⟩
    · exact zk_coV (idx := 38) X (ct_X0_doTick hl E) (List.forall_mem_cons.mpr ⟨zk_wi 270 (by decide +kernel) rfl, List.forall_mem_cons.mpr ⟨zk_wi 271 (by decide +kernel) rfl, List.forall_mem_cons.mpr ⟨zk_wi 272 (by decide +kernel) rfl, List.forall_mem_cons.mpr ⟨zk_wi 5 (by decide +kernel) rfl, List.forall_mem_cons.mpr ⟨zk_wi 273 (by decide +kernel) rfl, fun _ h => absurd h List.not_mem_nil⟩⟩⟩⟩⟩) (fun ci h => by
      have h := Nat.eq_of_beq_eq_true h
      subst h
      exact ⟨_, _, rfl⟩) (by decide +kernel) ⟨by decide, by decide, by decide +kernel⟩ ⟨by decide, by decide⟩


