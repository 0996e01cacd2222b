/-! the class: wayBy, bestExit, reckonRoom -/
theorem DD_B {J N : Nat → Nat → Int32} (hmi : MI J N) : ∀ k, ∀ e ∈ m_act J N, DD J N k e < INF → DD J N k e ≤ 820 * k
  | 0, _, _, h => absurd h (Nat.lt_irrefl _)
  | k + 1, e, he, h => by
    have ih := DD_B hmi k
    have e1 : DD J N (k + 1) e = FF J N (DD J N k) e := rfl
    rw [e1] at h ⊢
    unfold FF at h ⊢
    split at h
    · next q => rw [if_pos q]; omega
    · next q =>
      rw [if_neg q]
      have hs : steep e ≤ 20 := by unfold steep; split <;> omega
      have hg := m_gx hmi he
      have hB : g_least J N (DD J N k) (m_into N e) (nI (e / 2)) (g_x N e) (g_y N e) < INF → g_least J N (DD J N k) (m_into N e) (nI (e / 2)) (g_x N e) (g_y N e) ≤ 820 * k + 800 := fun w => fmin_B _ _ (fun f hf hc => by
        have hgf := m_gx hmi hf
        have hd := dN_le hgf.1.2 hgf.2.2 hg.1.2 hg.2.2
        have := ih f hf (g_c_iff.mp hc).2.2
        unfold g_f
        omega) w
      omega
theorem LL_B {J N : Nat → Nat → Int32} (hmi : MI J N) {e : Nat} (he : e ∈ m_act J N) (h : LL J N e < INF) : LL J N e ≤ 82000 := DD_B hmi 100 e he h
theorem bs_succ {J N : Nat → Nat → Int32} {v : Nat → Nat} {j x y : Nat} (hj : j < 20) (n : Nat) : g_bsl J N v (nI j) x y (m_actN J N (n + 1)) = g_bs J N v (nI j) x y (g_bsl J N v (nI j) x y (m_actN J N n)) n := by
  rw [m_actN_succ]
  by_cases q : m_from J N n = -2
  · rw [if_pos q, List.append_nil]
    unfold g_bs
    rw [if_neg]
    rw [q]
    exact fun w => nI_ne2 (r := j) (by omega) w.1.symm
  · rw [if_neg q, g_bsl_app]
theorem bsl_fst {J N : Nat → Nat → Int32} {v : Nat → Nat} {r : Int32} {x y : Nat} : ∀ (L : List Nat), (∀ e ∈ L, e < 100) → ∀ p : Nat × Nat, (L.foldl (g_bs J N v r x y) p).1 = fmin (g_c J N r (-1) v) (g_f N v x y) L p.1
  | [], _, _ => rfl
  | e :: L, hL, p => by
    rw [List.foldl_cons, bsl_fst L (fun e he => hL e (List.mem_cons_of_mem _ he))]
    have e0 : fmin (g_c J N r (-1) v) (g_f N v x y) (e :: L) p.1 = fmin (g_c J N r (-1) v) (g_f N v x y) L (if g_c J N r (-1) v e then min p.1 (g_f N v x y e) else p.1) := rfl
    rw [e0]
    congr 1
    have he := hL e List.mem_cons_self
    have n1 : ¬ nI (e / 2) = -1 := nI_ne1 (by omega)
    unfold g_bs g_f
    by_cases c : g_c J N r (-1) v e = true
    · obtain ⟨c1, c2, c3⟩ := g_c_iff.mp c
      rw [if_pos c]
      by_cases q : dN (g_x N e) (g_y N e) x y + v e < p.1
      · rw [if_pos ⟨c2, c3, q⟩]
        dsimp only
        omega
      · rw [if_neg (fun w => q w.2.2)]
        omega
    · rw [if_neg c, if_neg (fun w => c (g_c_iff.mpr ⟨n1, w.1, w.2.1⟩))]
theorem best_fst (J N : Nat → Nat → Int32) (v : Nat → Nat) (r : Int32) (x y : Nat) : (g_best J N v r x y).1 = g_least J N v r (-1) x y := bsl_fst _ (fun _ he => (m_act_mem.mp he).1) _
/-- how far it is out by an exit, from a point of a room -/
def wbe (J N : Nat → Nat → Int32) (j x y e : Nat) : Nat := if m_from J N e = nI j ∧ LL J N e < INF then dN (g_x N e) (g_y N e) x y + LL J N e else INF
def wby (J N : Nat → Nat → Int32) (j x y i : Nat) : Nat := min (wbe J N j x y (2 * i)) (wbe J N j x y (2 * i + 1))
/-- the ways are told -/
def WA (J N N1 : Nat → Nat → Int32) : Prop := ∀ i, i < 50 → N1 8 i = a_way J N (2 * i) ∧ N1 9 i = a_way J N (2 * i + 1)
theorem wbe_le {J N : Nat → Nat → Int32} {j x y e : Nat} (hmi : MI J N) (hj : j < 20) (he : e < 100) (hx : x ≤ 400) (hy : y ≤ 400) : wbe J N j x y e ≤ INF ∧ (wbe J N j x y e < INF → wbe J N j x y e ≤ 82800) := by
  unfold wbe
  by_cases q : m_from J N e = nI j ∧ LL J N e < INF
  · rw [if_pos q]
    have hem : e ∈ m_act J N := m_act_mem.mpr ⟨he, by rw [q.1]; exact nI_ne2 (by omega)⟩
    have h1 := LL_B hmi hem q.2
    have hg := m_gx hmi hem
    have hd := dN_le hg.1.2 hg.2.2 hx hy
    unfold INF
    omega
  · rw [if_neg q]
    exact ⟨Nat.le_refl _, fun w => absurd w (Nat.lt_irrefl _)⟩
theorem bs_wby {J N : Nat → Nat → Int32} {j x y i : Nat} {p : Nat × Nat} (hmi : MI J N) (hj : j < 20) (hi : i < 50) (hx : x ≤ 400) (hy : y ≤ 400) (hp : p.1 ≤ INF) (hp2 : p.2 = 100 ↔ p.1 = INF) :
    (wby J N j x y i < p.1 ∧ ∃ e, e / 2 = i ∧ g_bs J N (LL J N) (nI j) x y (g_bs J N (LL J N) (nI j) x y p (2 * i)) (2 * i + 1) = (wby J N j x y i, e) ∧ e < 100) ∨ (¬ wby J N j x y i < p.1 ∧ g_bs J N (LL J N) (nI j) x y (g_bs J N (LL J N) (nI j) x y p (2 * i)) (2 * i + 1) = p) := by
  obtain ⟨e1, e2, e3, e4⟩ := d2e i
  have b1 := wbe_le (j := j) (x := x) (y := y) (e := 2 * i) hmi hj (by omega) hx hy
  have b2 := wbe_le (j := j) (x := x) (y := y) (e := 2 * i + 1) hmi hj (by omega) hx hy
  have g : ∀ (p : Nat × Nat) e, p.1 ≤ INF → g_bs J N (LL J N) (nI j) x y p e = if wbe J N j x y e < p.1 then (wbe J N j x y e, e) else p := fun p e hp => by
    unfold g_bs wbe
    by_cases q : m_from J N e = nI j ∧ LL J N e < INF
    · rw [if_pos q]
      by_cases w : dN (g_x N e) (g_y N e) x y + LL J N e < p.1
      · rw [if_pos ⟨q.1, q.2, w⟩, if_pos w]
      · rw [if_neg (fun z => w z.2.2), if_neg w]
    · rw [if_neg (fun z => q ⟨z.1, z.2.1⟩), if_neg q, if_neg (by omega)]
  have ex : wbe J N j x y (2 * i) = INF ∨ wbe J N j x y (2 * i + 1) = INF := by
    by_cases q : m_from J N (2 * i) = nI j ∧ LL J N (2 * i) < INF
    · right
      unfold wbe
      rw [if_neg]
      intro z
      by_cases w : MX J N i ∧ eo N i
      · obtain ⟨f1, f2⟩ := from_yes hmi w.1 w.2
        obtain ⟨r, r1, r2, r3⟩ := ends_e hmi w.1
        have r20 := r1.lt hmi
        have q1 := q.1
        have z1 := z.1
        rw [f1, r2, n_inj (by omega) (by omega)] at q1
        rw [f2] at z1
        rcases r3 with r3 | ⟨q', a1, a2, a3⟩
        · rw [if_pos r3] at z1; exact nI_ne2 (r := j) (by omega) z1.symm
        · have a20 := a1.lt hmi
          rw [a3, if_neg (nI_ne1 (by omega)), n_inj (by omega) (by omega)] at z1
          omega
      · rw [(from_no w).1] at q
        exact nI_ne2 (r := j) (by omega) q.1.symm
    · left; unfold wbe; rw [if_neg q]
  rw [g p _ hp]
  unfold wby
  by_cases w1 : wbe J N j x y (2 * i) < p.1
  · rw [if_pos w1, g _ _ b1.1]
    have : wbe J N j x y (2 * i + 1) = INF := by omega
    left
    rw [this, if_neg (by omega)]
    exact ⟨by omega, 2 * i, e1, by rw [show min (wbe J N j x y (2 * i)) INF = wbe J N j x y (2 * i) by omega], by omega⟩
  · rw [if_neg w1, g _ _ hp]
    by_cases w2 : wbe J N j x y (2 * i + 1) < p.1
    · rw [if_pos w2]
      left
      have : wbe J N j x y (2 * i) = INF := by omega
      exact ⟨by omega, 2 * i + 1, e2, by rw [this, show min INF (wbe J N j x y (2 * i + 1)) = wbe J N j x y (2 * i + 1) by omega], by omega⟩
    · rw [if_neg w2]
      right
      exact ⟨by omega, rfl⟩
def sp_X8_wayBy (E : zk_E) : zk_Sp zk_S := fun av σ sz P PX => match av with
  | [.ref a, .ref p, .ref b, .int ix, .int px, .int py] => a = zk_ad E 7 ∧ p = zk_ad E 1 ∧ ∃ J N fl j x y, MI J N ∧ XR E sz σ J N fl ∧ WA J N σ.2.1 ∧ MR J N j ∧ σ.2.2.1 2 j = some b ∧ x ≤ 400 ∧ y ≤ 400 ∧ px = nI x ∧ py = nI y ∧ ((ix = -1 ∧ P (some (.int (-1))) σ sz) ∨ ∃ i, i < 50 ∧ ix = nI i ∧ P (some (.int (wi (wby J N j x y i)))) σ sz)
  | _ => False
theorem spe_X8_wayBy (E : zk_E) (a : Nat) (p : Nat) (b : Nat) (ix : Int32) (px : Int32) (py : Int32) (σ : zk_S) (sz : Nat) (P : zk_P zk_S) (PX : zk_X zk_S) : sp_X8_wayBy E [.ref a, .ref p, .ref b, .int ix, .int px, .int py] σ sz P PX = (a = zk_ad E 7 ∧ p = zk_ad E 1 ∧ ∃ J N fl j x y, MI J N ∧ XR E sz σ J N fl ∧ WA J N σ.2.1 ∧ MR J N j ∧ σ.2.2.1 2 j = some b ∧ x ≤ 400 ∧ y ≤ 400 ∧ px = nI x ∧ py = nI y ∧ ((ix = -1 ∧ P (some (.int (-1))) σ sz) ∨ ∃ i, i < 50 ∧ ix = nI i ∧ P (some (.int (wi (wby J N j x y i)))) σ sz)) := propext Iff.rfl
def C_X8_wayBy (E : zk_E) : zk_Cl zk_S := zk_lka [(2, 2, 0, 0, zk_rv (zk_VT E) (fun ci => Nat.beq ci 4) (sp_X5_exitAt E)), (21, 4, 0, 0, zk_rv (zk_VT E) (fun ci => Nat.beq ci 7) (sp_X8_wayFrom E)), (42, 3, 0, 0, zk_rv (zk_VT E) (fun ci => Nat.beq ci 1 || Nat.beq ci 6) (sp_X2_distanceTo E))]
theorem r_X8_wayBy (E : zk_E) (P : zk_P zk_S) (PX : zk_X zk_S) (K : Nat → zk_L → List Value → zk_W zk_S → Prop) : (∀ (n : Nat) (l0 l2 l3 l4 l5 l6 l7 : Option Value) (y1 : Value) (r : List Value) (σ : zk_S) (sz k c : Nat), zk_run E (zk_VT E) M_X8_wayBy (C_X8_wayBy E) P PX K (n + 1) 0 [l0, some y1, l2, l3, l4, l5, l6, l7] r (σ, sz, k, c) = (zk_isr y1 ∧ zk_run E (zk_VT E) M_X8_wayBy (C_X8_wayBy E) P PX K n 1 [l0, some y1, l2, l3, l4, l5, l6, l7] (y1 :: r) (σ, sz, k, c))) ∧
  (∀ (n : Nat) (l0 l1 l2 l4 l5 l6 l7 : Option Value) (y3 : Int32) (r : List Value) (σ : zk_S) (sz k c : Nat), zk_run E (zk_VT E) M_X8_wayBy (C_X8_wayBy E) P PX K (n + 1) 1 [l0, l1, l2, some (.int y3), l4, l5, l6, l7] r (σ, sz, k, c) = zk_run E (zk_VT E) M_X8_wayBy (C_X8_wayBy E) P PX K n 2 [l0, l1, l2, some (.int y3), l4, l5, l6, l7] (.int y3 :: r) (σ, sz, k, c)) ∧
  (∀ (n : Nat) (l0 l1 l2 l3 l4 l5 l6 l7 : Option Value) (v0 : Value) (v1 : Value)  (σ : zk_S) (sz k c : Nat), zk_run E (zk_VT E) M_X8_wayBy (C_X8_wayBy E) P PX K (n + 1) 2 [l0, l1, l2, l3, l4, l5, l6, l7] [v0, v1] (σ, sz, k, c) = (k + 0 ≤ 0 ∧ c + 0 ≤ 0 ∧ (zk_rv (zk_VT E) (fun ci => Nat.beq ci 4) (sp_X5_exitAt E)) [v1, v0] σ sz (fun v s2 z2 => zk_run E (zk_VT E) M_X8_wayBy (C_X8_wayBy E) P PX K n 5 [l0, l1, l2, l3, l4, l5, l6, l7] (zk_psh v []) (s2, z2, k + 0, c + 0)) (fun X s2 z2 => PX X s2 z2))) ∧
  (∀ (n : Nat) (l0 l1 l2 l3 l4 l5 l6 l7 : Option Value) (x : Value) (r : List Value) (σ : zk_S) (sz k c : Nat), zk_run E (zk_VT E) M_X8_wayBy (C_X8_wayBy E) P PX K (n + 1) 5 [l0, l1, l2, l3, l4, l5, l6, l7] (x :: r) (σ, sz, k, c) = (zk_isr x ∧ zk_run E (zk_VT E) M_X8_wayBy (C_X8_wayBy E) P PX K n 7 [l0, l1, l2, l3, l4, zk_kl l5, some (x), l7] r (σ, sz, k, c))) ∧
  (∀ (n : Nat) (l0 l1 l2 l3 l4 l5 l7 : Option Value) (y6 : Value) (r : List Value) (σ : zk_S) (sz k c : Nat), zk_run E (zk_VT E) M_X8_wayBy (C_X8_wayBy E) P PX K (n + 1) 7 [l0, l1, l2, l3, l4, l5, some y6, l7] r (σ, sz, k, c) = (zk_isr y6 ∧ zk_run E (zk_VT E) M_X8_wayBy (C_X8_wayBy E) P PX K n 9 [l0, l1, l2, l3, l4, l5, some y6, l7] (y6 :: r) (σ, sz, k, c))) ∧
  (∀ (n : Nat) (l0 l1 l2 l3 l4 l5 l6 l7 : Option Value) (v : Value) (r : List Value) (σ : zk_S) (sz k c : Nat), zk_run E (zk_VT E) M_X8_wayBy (C_X8_wayBy E) P PX K (n + 1) 9 [l0, l1, l2, l3, l4, l5, l6, l7] (v :: r) (σ, sz, k, c) = (zk_isr v ∧ (¬ v = .null → zk_run E (zk_VT E) M_X8_wayBy (C_X8_wayBy E) P PX K n 16 [l0, l1, l2, l3, l4, l5, l6, l7] r (σ, sz, k, c)) ∧ (¬ (¬ v = .null) → zk_run E (zk_VT E) M_X8_wayBy (C_X8_wayBy E) P PX K n 12 [l0, l1, l2, l3, l4, l5, l6, l7] r (σ, sz, k, c)))) ∧
  (∀ (n : Nat) (l0 l1 l2 l3 l4 l5 l6 l7 : Option Value)  (r : List Value) (σ : zk_S) (sz k c : Nat), zk_run E (zk_VT E) M_X8_wayBy (C_X8_wayBy E) P PX K (n + 1) 12 [l0, l1, l2, l3, l4, l5, l6, l7] r (σ, sz, k, c) = zk_run E (zk_VT E) M_X8_wayBy (C_X8_wayBy E) P PX K n 13 [l0, l1, l2, l3, l4, l5, l6, l7] (.int ((-1)) :: r) (σ, sz, k, c)) ∧
  (∀ (n : Nat) (l0 l1 l2 l3 l4 l5 l6 l7 : Option Value)  (r : List Value) (σ : zk_S) (sz k c : Nat), zk_run E (zk_VT E) M_X8_wayBy (C_X8_wayBy E) P PX K (n + 1) 13 [l0, l1, l2, l3, l4, l5, l6, l7] r (σ, sz, k, c) = zk_run E (zk_VT E) M_X8_wayBy (C_X8_wayBy E) P PX K n 24 [l0, l1, l2, l3, l4, l5, l6, l7] r (σ, sz, k, c)) ∧
  (∀ (n : Nat) (l1 l2 l3 l4 l5 l6 l7 : Option Value) (y0 : Value) (r : List Value) (σ : zk_S) (sz k c : Nat), zk_run E (zk_VT E) M_X8_wayBy (C_X8_wayBy E) P PX K (n + 1) 16 [some y0, l1, l2, l3, l4, l5, l6, l7] r (σ, sz, k, c) = (zk_isr y0 ∧ zk_run E (zk_VT E) M_X8_wayBy (C_X8_wayBy E) P PX K n 17 [some y0, l1, l2, l3, l4, l5, l6, l7] (y0 :: r) (σ, sz, k, c))) ∧
  (∀ (n : Nat) (l0 l1 l2 l4 l5 l6 l7 : Option Value) (y3 : Int32) (r : List Value) (σ : zk_S) (sz k c : Nat), zk_run E (zk_VT E) M_X8_wayBy (C_X8_wayBy E) P PX K (n + 1) 17 [l0, l1, l2, some (.int y3), l4, l5, l6, l7] r (σ, sz, k, c) = zk_run E (zk_VT E) M_X8_wayBy (C_X8_wayBy E) P PX K n 18 [l0, l1, l2, some (.int y3), l4, l5, l6, l7] (.int y3 :: r) (σ, sz, k, c)) ∧
  (∀ (n : Nat) (l0 l1 l2 l3 l4 l5 l7 : Option Value) (y6 : Value) (r : List Value) (σ : zk_S) (sz k c : Nat), zk_run E (zk_VT E) M_X8_wayBy (C_X8_wayBy E) P PX K (n + 1) 18 [l0, l1, l2, l3, l4, l5, some y6, l7] r (σ, sz, k, c) = (zk_isr y6 ∧ zk_run E (zk_VT E) M_X8_wayBy (C_X8_wayBy E) P PX K n 20 [l0, l1, l2, l3, l4, l5, some y6, l7] (y6 :: r) (σ, sz, k, c))) ∧
  (∀ (n : Nat) (l0 l1 l3 l4 l5 l6 l7 : Option Value) (y2 : Value) (r : List Value) (σ : zk_S) (sz k c : Nat), zk_run E (zk_VT E) M_X8_wayBy (C_X8_wayBy E) P PX K (n + 1) 20 [l0, l1, some y2, l3, l4, l5, l6, l7] r (σ, sz, k, c) = (zk_isr y2 ∧ zk_run E (zk_VT E) M_X8_wayBy (C_X8_wayBy E) P PX K n 21 [l0, l1, some y2, l3, l4, l5, l6, l7] (y2 :: r) (σ, sz, k, c))) ∧
  (∀ (n : Nat) (l0 l1 l2 l3 l4 l5 l6 l7 : Option Value) (v0 : Value) (v1 : Value) (v2 : Value) (v3 : Value)  (σ : zk_S) (sz k c : Nat), zk_run E (zk_VT E) M_X8_wayBy (C_X8_wayBy E) P PX K (n + 1) 21 [l0, l1, l2, l3, l4, l5, l6, l7] [v0, v1, v2, v3] (σ, sz, k, c) = (k + 0 ≤ 0 ∧ c + 0 ≤ 0 ∧ (zk_rv (zk_VT E) (fun ci => Nat.beq ci 7) (sp_X8_wayFrom E)) [v3, v2, v1, v0] σ sz (fun v s2 z2 => zk_run E (zk_VT E) M_X8_wayBy (C_X8_wayBy E) P PX K n 24 [l0, l1, l2, l3, l4, l5, l6, l7] (zk_psh v []) (s2, z2, k + 0, c + 0)) (fun X s2 z2 => PX X s2 z2))) ∧
  (∀ (n : Nat) (l0 l1 l2 l3 l4 l5 l6 l7 : Option Value) (x : Int32) (r : List Value) (σ : zk_S) (sz k c : Nat), zk_run E (zk_VT E) M_X8_wayBy (C_X8_wayBy E) P PX K (n + 1) 24 [l0, l1, l2, l3, l4, l5, l6, l7] (.int x :: r) (σ, sz, k, c) = zk_run E (zk_VT E) M_X8_wayBy (C_X8_wayBy E) P PX K n 26 [l0, l1, l2, l3, l4, l5, zk_kl l6, some (.int x)] r (σ, sz, k, c)) ∧
  (∀ (n : Nat) (l0 l1 l2 l3 l4 l5 l6 : Option Value) (y7 : Int32) (r : List Value) (σ : zk_S) (sz k c : Nat), zk_run E (zk_VT E) M_X8_wayBy (C_X8_wayBy E) P PX K (n + 1) 26 [l0, l1, l2, l3, l4, l5, l6, some (.int y7)] r (σ, sz, k, c) = zk_run E (zk_VT E) M_X8_wayBy (C_X8_wayBy E) P PX K n 28 [l0, l1, l2, l3, l4, l5, l6, some (.int y7)] (.int y7 :: r) (σ, sz, k, c)) ∧
  (∀ (n : Nat) (l0 l1 l2 l3 l4 l5 l6 l7 : Option Value)  (r : List Value) (σ : zk_S) (sz k c : Nat), zk_run E (zk_VT E) M_X8_wayBy (C_X8_wayBy E) P PX K (n + 1) 28 [l0, l1, l2, l3, l4, l5, l6, l7] r (σ, sz, k, c) = zk_run E (zk_VT E) M_X8_wayBy (C_X8_wayBy E) P PX K n 29 [l0, l1, l2, l3, l4, l5, l6, l7] (.int ((-1)) :: r) (σ, sz, k, c)) ∧
  (∀ (n : Nat) (l0 l1 l2 l3 l4 l5 l6 l7 : Option Value) (x y : Int32) (r : List Value) (σ : zk_S) (sz k c : Nat), zk_run E (zk_VT E) M_X8_wayBy (C_X8_wayBy E) P PX K (n + 1) 29 [l0, l1, l2, l3, l4, l5, l6, l7] (.int y :: .int x :: r) (σ, sz, k, c) = ((¬ x = y → zk_run E (zk_VT E) M_X8_wayBy (C_X8_wayBy E) P PX K n 36 [l0, l1, l2, l3, l4, l5, l6, l7] r (σ, sz, k, c)) ∧ (¬ (¬ x = y) → zk_run E (zk_VT E) M_X8_wayBy (C_X8_wayBy E) P PX K n 32 [l0, l1, l2, l3, l4, l5, l6, l7] r (σ, sz, k, c)))) ∧
  (∀ (n : Nat) (l0 l1 l2 l3 l4 l5 l6 l7 : Option Value)  (r : List Value) (σ : zk_S) (sz k c : Nat), zk_run E (zk_VT E) M_X8_wayBy (C_X8_wayBy E) P PX K (n + 1) 32 [l0, l1, l2, l3, l4, l5, l6, l7] r (σ, sz, k, c) = zk_run E (zk_VT E) M_X8_wayBy (C_X8_wayBy E) P PX K n 33 [l0, l1, l2, l3, l4, l5, l6, l7] (.int ((-1)) :: r) (σ, sz, k, c)) ∧
  (∀ (n : Nat) (l0 l1 l2 l3 l4 l5 l6 l7 : Option Value)  (r : List Value) (σ : zk_S) (sz k c : Nat), zk_run E (zk_VT E) M_X8_wayBy (C_X8_wayBy E) P PX K (n + 1) 33 [l0, l1, l2, l3, l4, l5, l6, l7] r (σ, sz, k, c) = zk_run E (zk_VT E) M_X8_wayBy (C_X8_wayBy E) P PX K n 48 [l0, l1, l2, l3, l4, l5, l6, l7] r (σ, sz, k, c)) ∧
  (∀ (n : Nat) (l0 l1 l2 l3 l4 l5 l7 : Option Value) (y6 : Value) (r : List Value) (σ : zk_S) (sz k c : Nat), zk_run E (zk_VT E) M_X8_wayBy (C_X8_wayBy E) P PX K (n + 1) 36 [l0, l1, l2, l3, l4, l5, some y6, l7] r (σ, sz, k, c) = (zk_isr y6 ∧ zk_run E (zk_VT E) M_X8_wayBy (C_X8_wayBy E) P PX K n 38 [l0, l1, l2, l3, l4, l5, some y6, l7] (y6 :: r) (σ, sz, k, c))) ∧
  (∀ (n : Nat) (l0 l1 l2 l3 l5 l6 l7 : Option Value) (y4 : Int32) (r : List Value) (σ : zk_S) (sz k c : Nat), zk_run E (zk_VT E) M_X8_wayBy (C_X8_wayBy E) P PX K (n + 1) 38 [l0, l1, l2, l3, some (.int y4), l5, l6, l7] r (σ, sz, k, c) = zk_run E (zk_VT E) M_X8_wayBy (C_X8_wayBy E) P PX K n 40 [l0, l1, l2, l3, some (.int y4), l5, l6, l7] (.int y4 :: r) (σ, sz, k, c)) ∧
  (∀ (n : Nat) (l0 l1 l2 l3 l4 l6 l7 : Option Value) (y5 : Int32) (r : List Value) (σ : zk_S) (sz k c : Nat), zk_run E (zk_VT E) M_X8_wayBy (C_X8_wayBy E) P PX K (n + 1) 40 [l0, l1, l2, l3, l4, some (.int y5), l6, l7] r (σ, sz, k, c) = zk_run E (zk_VT E) M_X8_wayBy (C_X8_wayBy E) P PX K n 42 [l0, l1, l2, l3, l4, some (.int y5), l6, l7] (.int y5 :: r) (σ, sz, k, c)) ∧
  (∀ (n : Nat) (l0 l1 l2 l3 l4 l5 l6 l7 : Option Value) (v0 : Value) (v1 : Value) (v2 : Value)  (σ : zk_S) (sz k c : Nat), zk_run E (zk_VT E) M_X8_wayBy (C_X8_wayBy E) P PX K (n + 1) 42 [l0, l1, l2, l3, l4, l5, l6, l7] [v0, v1, v2] (σ, sz, k, c) = (k + 0 ≤ 0 ∧ c + 0 ≤ 0 ∧ (zk_rv (zk_VT E) (fun ci => Nat.beq ci 1 || Nat.beq ci 6) (sp_X2_distanceTo E)) [v2, v1, v0] σ sz (fun v s2 z2 => zk_run E (zk_VT E) M_X8_wayBy (C_X8_wayBy E) P PX K n 45 [l0, l1, l2, l3, l4, l5, l6, l7] (zk_psh v []) (s2, z2, k + 0, c + 0)) (fun X s2 z2 => PX X s2 z2))) ∧
  (∀ (n : Nat) (l0 l1 l2 l3 l4 l5 l6 : Option Value) (y7 : Int32) (r : List Value) (σ : zk_S) (sz k c : Nat), zk_run E (zk_VT E) M_X8_wayBy (C_X8_wayBy E) P PX K (n + 1) 45 [l0, l1, l2, l3, l4, l5, l6, some (.int y7)] r (σ, sz, k, c) = zk_run E (zk_VT E) M_X8_wayBy (C_X8_wayBy E) P PX K n 47 [l0, l1, l2, l3, l4, l5, l6, some (.int y7)] (.int y7 :: r) (σ, sz, k, c)) ∧
  (∀ (n : Nat) (l0 l1 l2 l3 l4 l5 l6 l7 : Option Value) (x y : Int32) (r : List Value) (σ : zk_S) (sz k c : Nat), zk_run E (zk_VT E) M_X8_wayBy (C_X8_wayBy E) P PX K (n + 1) 47 [l0, l1, l2, l3, l4, l5, l6, l7] (.int y :: .int x :: r) (σ, sz, k, c) = zk_run E (zk_VT E) M_X8_wayBy (C_X8_wayBy E) P PX K n 48 [l0, l1, l2, l3, l4, l5, l6, l7] (.int (x + y) :: r) (σ, sz, k, c)) ∧
  (∀ (n : Nat) (l0 l1 l2 l3 l4 l5 l6 l7 : Option Value) (x : Int32)  (σ : zk_S) (sz k c : Nat), zk_run E (zk_VT E) M_X8_wayBy (C_X8_wayBy E) P PX K (n + 1) 48 [l0, l1, l2, l3, l4, l5, l6, l7] [.int x] (σ, sz, k, c) = (zk_nok (some (.int)) x ∧ P (some (.int x)) σ sz ∧ k ≤ 0 ∧ c ≤ 0)) ∧
  (∀ (n : Nat) (l0 l1 l2 l3 l4 l5 l6 l7 : Option Value) (r : List Value) (w : zk_W zk_S), zk_go E (zk_VT E) M_X8_wayBy (C_X8_wayBy E) P PX K n 0 [l0, l1, l2, l3, l4, l5, l6, l7] r w = zk_run E (zk_VT E) M_X8_wayBy (C_X8_wayBy E) P PX K (n + 1) 0 [l0, l1, l2, l3, l4, l5, l6, l7] r w) := ⟨by intros; rfl, by intros; rfl, by intros; rfl, by intros; rfl, by intros; rfl, by intros; rfl, by intros; rfl, by intros; rfl, by intros; rfl, by intros; rfl, by intros; rfl, by intros; rfl, by intros; rfl, by intros; rfl, by intros; rfl, by intros; rfl, by intros; rfl, by intros; rfl, by intros; rfl, by intros; rfl, by intros; rfl, by intros; rfl, by intros; rfl, by intros; rfl, by intros; rfl, by intros; rfl, by intros; rfl⟩
theorem vc_X8_wayBy (E : zk_E) : zk_VC E (zk_VT E) M_X8_wayBy (C_X8_wayBy E) 8 (sp_X8_wayBy E) := by
  intro av σ sz P PX h
  obtain ⟨J, N, Q, O, U⟩ := σ
  unfold sp_X8_wayBy at h
  split at h
  case h_2 => exact h.elim
  rename_i a0 p b ix px py
  obtain ⟨rfl, h⟩ := h
  refine ⟨Nat.le_of_ble_eq_true rfl, fun G hG => ?_⟩
  change G 0 [some (.ref (zk_ad E 7)), some (.ref p), some (.ref b), some (.int ix), some (.int px), some (.int py), none, none] [] ((J, N, Q, O, U), sz, 0, 0)
  try dsimp only at h
  obtain ⟨rfl, J1, N1, fl, j, x, y, hmi, hxr, hwa, hj, hb, hx, hy, rfl, rfl, h⟩ := h
  have hj20 := hj.lt hmi
  rcases h with ⟨rfl, h⟩ | ⟨i, hi, rfl, h⟩
  · have c1 : m_isIn (-1) 0 49 = false := by decide
    (refine hG 900 _ _ _ _ ?_; simp only [r_X8_wayBy, zk_kl_none, zk_kl_int, zk_kl_ref, zk_kl_null, zk_kl_long, zk_kl_rf, zk_isr_ref, zk_isr_null, zk_isr_rf9, zk_c1_int, zk_c1_ref, zk_c1_null, zk_c1_rf, zk_psh_some, zk_psh_none, zk_nok_int, zk_nok_bool0, zk_nok_bool1, zk_nok_b, zk_fok_0, zk_fok_1, zk_fok_2, zk_fok_n, zk_fok_rf, zb_f, zb_p, zb_i, zb_a, zb_s, zk_nth_0, zk_nth_s, zk_fld_o, zk_put_o, zk_rv_eq, zk_ri_eq, zk_is_o, List.mem_cons, List.not_mem_nil, or_false, false_or, or_true, true_or, and_true, true_and, not_false_iff, not_true_eq_false, true_implies, false_implies, imp_self, implies_true, forall_const, zk_lit, zk_uj_ap, zk_un_ap, zk_un_un, zk_uj_uj, Nat.reduceEqDiff, eq_self, zk_bq, Bool.true_or, Bool.false_or, Nat.le_refl, Nat.zero_add, Nat.add_zero, Nat.reduceAdd, Nat.reduceLeDiff, Nat.le_zero_eq, and_self, and_false, false_and, ite_true, ite_false, Nat.zero_le, List.length_cons, List.length_nil, Option.some.injEq, forall_eq', reduceCtorEq, spe_X5_exitAt, c1, Bool.false_eq_true])
    exact h
  · have hin := n_isIn49 hi
    have hcl : (nI i).toNatClampNeg = i := n_cl (by omega)
    have hin5 : vp_in (nI i) 50 := n_in hi (by decide)
    cases q : xat Q i with
    | none =>
      have nx := (hxr.exn hi).mp q
      obtain ⟨f1, f2⟩ := from_no (J := J1) (N := N1) (i := i) (fun w => nx w.1)
      have e0 : wi (wby J1 N1 j x y i) = -1 := by
        unfold wby wbe
        rw [f1, f2, if_neg (fun w => nI_ne2 (r := j) (by omega) w.1.symm), if_neg (fun w => nI_ne2 (r := j) (by omega) w.1.symm)]
        decide
      rw [e0] at h
      (refine hG 900 _ _ _ _ ?_; simp only [r_X8_wayBy, zk_kl_none, zk_kl_int, zk_kl_ref, zk_kl_null, zk_kl_long, zk_kl_rf, zk_isr_ref, zk_isr_null, zk_isr_rf9, zk_c1_int, zk_c1_ref, zk_c1_null, zk_c1_rf, zk_psh_some, zk_psh_none, zk_nok_int, zk_nok_bool0, zk_nok_bool1, zk_nok_b, zk_fok_0, zk_fok_1, zk_fok_2, zk_fok_n, zk_fok_rf, zb_f, zb_p, zb_i, zb_a, zb_s, zk_nth_0, zk_nth_s, zk_fld_o, zk_put_o, zk_rv_eq, zk_ri_eq, zk_is_o, List.mem_cons, List.not_mem_nil, or_false, false_or, or_true, true_or, and_true, true_and, not_false_iff, not_true_eq_false, true_implies, false_implies, imp_self, implies_true, forall_const, zk_lit, zk_uj_ap, zk_un_ap, zk_un_un, zk_uj_uj, Nat.reduceEqDiff, eq_self, zk_bq, Bool.true_or, Bool.false_or, Nat.le_refl, Nat.zero_add, Nat.add_zero, Nat.reduceAdd, Nat.reduceLeDiff, Nat.le_zero_eq, and_self, and_false, false_and, ite_true, ite_false, Nat.zero_le, List.length_cons, List.length_nil, Option.some.injEq, forall_eq', reduceCtorEq, spe_X5_exitAt, hin, hcl, q, va_rf_n, Bool.true_eq_false])
      exact h
    | some c =>
      obtain ⟨hMX, hca, ci, fw, sh, rest, hci, hOc, hsh, -⟩ := hxr.ex hi q
      have hOc : O c = some (cX ci (rq Q (ef N1 i)) (rq Q (et N1 i)) (m_px N1 (2 * i)) (m_py N1 (2 * i)) (nI (steep (2 * i))) fw sh rest) := hOc
      have hc1 := hca.1
      have hXc : isX (O c) := by rw [hOc]; exact ⟨ci, _, _, _, _, _, _, _, _, hci, rfl⟩
      have hic : ∀ kk, zk_is (O c) kk = (kk ci = true) := fun kk => by rw [hOc]; rfl
      have kk : (Nat.beq ci 1 || Nat.beq ci 6) = true := by rcases hci with rfl | rfl <;> rfl
      obtain ⟨r, r1, r2, r3⟩ := ends_e hmi hMX
      have r20 := r1.lt hmi
      have q1 := hxr.2.1.rqe hmi (x := ef N1 i) (Or.inr ⟨r, r1, r2⟩) hj hb
      have q2 := hxr.2.1.rqe hmi (x := et N1 i) (r3.imp id (fun ⟨q, a1, a2, a3⟩ => ⟨q, a1, a3⟩)) hj hb
      obtain ⟨w8, w9⟩ := hwa i hi
      have hwf : x_wf N (O c) i b = if ef N1 i = nI j then a_way J1 N1 (2 * i) else if et N1 i = nI j then a_way J1 N1 (2 * i + 1) else -1 := by
        unfold x_wf
        rw [hOc]
        simp only [fR_X, w8, w9]
        by_cases z1 : ef N1 i = nI j
        · rw [if_pos z1, if_pos (by rw [q1]; exact z1)]
        · rw [if_neg z1, if_neg (by rw [q1]; exact z1)]
          by_cases z2 : et N1 i = nI j
          · rw [if_pos z2, if_pos (by rw [q2]; exact z2)]
          · rw [if_neg z2, if_neg (by rw [q2]; exact z2)]
      have none_ : x_wf N (O c) i b = -1 → wby J1 N1 j x y i = INF → G 0 [some (.ref (zk_ad E 7)), some (.ref (zk_ad E 1)), some (.ref b), some (.int (nI i)), some (.int (nI x)), some (.int (nI y)), none, none] [] ((J, N, Q, O, U), sz, 0, 0) := by
        intro w1 w2
        rw [w2, show wi INF = -1 by decide] at h
        (refine hG 900 _ _ _ _ ?_; simp only [r_X8_wayBy, zk_kl_none, zk_kl_int, zk_kl_ref, zk_kl_null, zk_kl_long, zk_kl_rf, zk_isr_ref, zk_isr_null, zk_isr_rf9, zk_c1_int, zk_c1_ref, zk_c1_null, zk_c1_rf, zk_psh_some, zk_psh_none, zk_nok_int, zk_nok_bool0, zk_nok_bool1, zk_nok_b, zk_fok_0, zk_fok_1, zk_fok_2, zk_fok_n, zk_fok_rf, zb_f, zb_p, zb_i, zb_a, zb_s, zk_nth_0, zk_nth_s, zk_fld_o, zk_put_o, zk_rv_eq, zk_ri_eq, zk_is_o, List.mem_cons, List.not_mem_nil, or_false, false_or, or_true, true_or, and_true, true_and, not_false_iff, not_true_eq_false, true_implies, false_implies, imp_self, implies_true, forall_const, zk_lit, zk_uj_ap, zk_un_ap, zk_un_un, zk_uj_uj, Nat.reduceEqDiff, eq_self, zk_bq, Bool.true_or, Bool.false_or, Nat.le_refl, Nat.zero_add, Nat.add_zero, Nat.reduceAdd, Nat.reduceLeDiff, Nat.le_zero_eq, and_self, and_false, false_and, ite_true, ite_false, Nat.zero_le, List.length_cons, List.length_nil, Option.some.injEq, forall_eq', reduceCtorEq, spe_X5_exitAt, hin, hcl, q, va_rf_s, Bool.true_eq_false, spe_X8_wayFrom, hin5, hc1, hXc, w1])
        exact h
      have some_ : ∀ e, (e = 2 * i ∨ e = 2 * i + 1) → x_wf N (O c) i b = nI (LL J1 N1 e) → LL J1 N1 e < INF → e ∈ m_act J1 N1 → wby J1 N1 j x y i = dN (g_x N1 e) (g_y N1 e) x y + LL J1 N1 e → G 0 [some (.ref (zk_ad E 7)), some (.ref (zk_ad E 1)), some (.ref b), some (.int (nI i)), some (.int (nI x)), some (.int (nI y)), none, none] [] ((J, N, Q, O, U), sz, 0, 0) := by
        intro e he w1 w2 hem w3
        have hge := m_gx hmi hem
        have hd := dN_le hge.1.2 hge.2.2 hx hy
        have hLB := LL_B hmi hem w2
        have hdist : i_abs (fI (O c) 2 - nI x) + i_abs (fI (O c) 3 - nI y) = nI (dN (g_x N1 e) (g_y N1 e) x y) := by
          have := m_dist_n hge hx hy
          unfold m_dist at this
          rw [hOc]
          simp only [fI_X]
          rcases he with rfl | rfl
          · exact this
          · rw [(px_o N1 i).1, (px_o N1 i).2] at this; exact this
        have n1 := nI_ne1 (r := LL J1 N1 e) (by omega)
        rw [w3] at h
        unfold wi at h
        rw [if_neg (by unfold INF; omega)] at h
        (refine hG 900 _ _ _ _ ?_; simp only [r_X8_wayBy, zk_kl_none, zk_kl_int, zk_kl_ref, zk_kl_null, zk_kl_long, zk_kl_rf, zk_isr_ref, zk_isr_null, zk_isr_rf9, zk_c1_int, zk_c1_ref, zk_c1_null, zk_c1_rf, zk_psh_some, zk_psh_none, zk_nok_int, zk_nok_bool0, zk_nok_bool1, zk_nok_b, zk_fok_0, zk_fok_1, zk_fok_2, zk_fok_n, zk_fok_rf, zb_f, zb_p, zb_i, zb_a, zb_s, zk_nth_0, zk_nth_s, zk_fld_o, zk_put_o, zk_rv_eq, zk_ri_eq, zk_is_o, List.mem_cons, List.not_mem_nil, or_false, false_or, or_true, true_or, and_true, true_and, not_false_iff, not_true_eq_false, true_implies, false_implies, imp_self, implies_true, forall_const, zk_lit, zk_uj_ap, zk_un_ap, zk_un_un, zk_uj_uj, Nat.reduceEqDiff, eq_self, zk_bq, Bool.true_or, Bool.false_or, Nat.le_refl, Nat.zero_add, Nat.add_zero, Nat.reduceAdd, Nat.reduceLeDiff, Nat.le_zero_eq, and_self, and_false, false_and, ite_true, ite_false, Nat.zero_le, List.length_cons, List.length_nil, Option.some.injEq, forall_eq', reduceCtorEq, spe_X5_exitAt, hin, hcl, q, va_rf_s, Bool.true_eq_false, spe_X8_wayFrom, hin5, hc1, hXc, w1, n1, zk_vd hc1, hic, kk, spe_X2_distanceTo, hdist, n_add])
        exact h
      by_cases o : eo N1 i
      · obtain ⟨f1, f2⟩ := from_yes hmi hMX o
        obtain ⟨a1, a2, a3⟩ := act_dir hmi hi hMX o
        by_cases z1 : ef N1 i = nI j
        · rw [if_pos z1] at hwf
          have z2 : ¬ m_from J1 N1 (2 * i + 1) = nI j := by
            rw [f2]
            rcases r3 with r3 | ⟨q', b1, b2, b3⟩
            · rw [if_pos r3]; exact fun w => nI_ne2 (r := j) (by omega) w.symm
            · have b20 := b1.lt hmi
              rw [b3, if_neg (nI_ne1 (by omega)), n_inj (by omega) (by omega)]
              rw [r2, n_inj (by omega) (by omega)] at z1
              omega
          have wb1 : wbe J1 N1 j x y (2 * i + 1) = INF := by unfold wbe; rw [if_neg (fun w => z2 w.1)]
          have al := LL_le_INF (J := J1) (N := N1) (2 * i)
          by_cases z3 : LL J1 N1 (2 * i) < INF
          · have wb0 : wbe J1 N1 j x y (2 * i) = dN (g_x N1 (2 * i)) (g_y N1 (2 * i)) x y + LL J1 N1 (2 * i) := by unfold wbe; rw [if_pos ⟨by rw [f1]; exact z1, z3⟩]
            have bb := wbe_le (j := j) (x := x) (y := y) (e := 2 * i) hmi hj20 (by omega) hx hy
            refine some_ (2 * i) (Or.inl rfl) ?_ z3 a1 ?_
            · rw [hwf]; unfold a_way; rw [if_neg]; rintro (w | w); exact (m_act_mem.mp a1).2 w; omega
            · unfold wby; rw [wb1, ← wb0]; omega
          · refine none_ ?_ ?_
            · rw [hwf]; unfold a_way; rw [if_pos (Or.inr (by omega))]
            · unfold wby; rw [wb1]; unfold wbe; rw [if_neg (fun w => z3 w.2)]; omega
        · rw [if_neg z1] at hwf
          have wb0 : wbe J1 N1 j x y (2 * i) = INF := by unfold wbe; rw [if_neg (fun w => z1 (by rw [← f1]; exact w.1))]
          by_cases z2 : et N1 i = nI j
          · rw [if_pos z2] at hwf
            have z4 : ¬ et N1 i = -1 := by rw [z2]; exact nI_ne1 (by omega)
            have al := LL_le_INF (J := J1) (N := N1) (2 * i + 1)
            by_cases z3 : LL J1 N1 (2 * i + 1) < INF
            · have wb1 : wbe J1 N1 j x y (2 * i + 1) = dN (g_x N1 (2 * i + 1)) (g_y N1 (2 * i + 1)) x y + LL J1 N1 (2 * i + 1) := by unfold wbe; rw [if_pos ⟨by rw [f2, if_neg z4]; exact z2, z3⟩]
              have bb := wbe_le (j := j) (x := x) (y := y) (e := 2 * i + 1) hmi hj20 (by omega) hx hy
              refine some_ (2 * i + 1) (Or.inr rfl) ?_ z3 (a2 z4) ?_
              · rw [hwf]; unfold a_way; rw [if_neg]; rintro (w | w); exact (m_act_mem.mp (a2 z4)).2 w; omega
              · unfold wby; rw [wb0, ← wb1]; omega
            · refine none_ ?_ ?_
              · rw [hwf]; unfold a_way; rw [if_pos (Or.inr (by omega))]
              · unfold wby; rw [wb0]; unfold wbe; rw [if_neg (fun w => z3 w.2)]; omega
          · rw [if_neg z2] at hwf
            refine none_ hwf ?_
            unfold wby
            rw [wb0]
            unfold wbe
            rw [if_neg]
            · omega
            · intro w
              have w1 := w.1
              rw [f2] at w1
              split at w1
              · exact nI_ne2 (r := j) (by omega) w1.symm
              · exact z2 w1
      · obtain ⟨f1, f2⟩ := from_no (J := J1) (N := N1) (i := i) (fun w => o w.2)
        refine none_ ?_ ?_
        · rw [hwf]
          unfold a_way
          rw [if_pos (Or.inl f1), if_pos (Or.inl f2)]
          split <;> (try split) <;> rfl
        · unfold wby wbe
          rw [f1, f2, if_neg (fun w => nI_ne2 (r := j) (by omega) w.1.symm), if_neg (fun w => nI_ne2 (r := j) (by omega) w.1.symm)]
          omega
theorem ct_X8_wayBy {l : Launch} (hl : l.stackTraces = false) (E : zk_E) : zk_C l E (zk_VT E) yX8_wayBy cX8_wayBy 8 (some (.int)) rm_X8_wayBy (sp_X8_wayBy E) := by
  refine zk_meth (M := M_X8_wayBy) (C := C_X8_wayBy E) hl (by decide +kernel) rfl (fun _ _ => rfl) (zk_VT_ok E) MO_X8_wayBy TO_X8_wayBy THo_X8_wayBy ?_ (vc_X8_wayBy E)
  exact fun p e s m args below meth c X pc n mc ms sp2 h => by
    have h2 := zk_lka_mem h
    simp only [List.mem_cons, List.not_mem_nil, or_false, Prod.mk.injEq] at h2
    rcases h2 with ⟨rfl, rfl, rfl, rfl, rfl⟩ | ⟨rfl, rfl, rfl, rfl, rfl⟩ | ⟨rfl, rfl, rfl, rfl, rfl⟩
    · exact zk_coV (idx := 33) X (ct_X5_exitAt hl E) (List.forall_mem_cons.mpr ⟨zk_wi 118 (by decide +kernel) rfl, List.forall_mem_cons.mpr ⟨zk_wi 119 (by decide +kernel) rfl, List.forall_mem_cons.mpr ⟨zk_wi 120 (by decide +kernel) rfl, List.forall_mem_cons.mpr ⟨zk_wi 3 (by decide +kernel) rfl, List.forall_mem_cons.mpr ⟨zk_wi 121 (by decide +kernel) rfl, fun _ h => absurd h List.not_mem_nil⟩⟩⟩⟩⟩) (fun ci h => by
      have h := Nat.eq_of_beq_eq_true h
      subst h
      exact ⟨_, _, rfl⟩) (by decide +kernel) ⟨by decide, by decide, by decide +kernel⟩ ⟨by decide, by decide⟩
    · exact zk_coV (idx := 64) X (ct_X8_wayFrom hl E) (List.forall_mem_cons.mpr ⟨zk_wi 130 (by decide +kernel) rfl, List.forall_mem_cons.mpr ⟨zk_wi 131 (by decide +kernel) rfl, List.forall_mem_cons.mpr ⟨zk_wi 132 (by decide +kernel) rfl, List.forall_mem_cons.mpr ⟨zk_wi 4 (by decide +kernel) rfl, List.forall_mem_cons.mpr ⟨zk_wi 133 (by decide +kernel) rfl, fun _ h => absurd h List.not_mem_nil⟩⟩⟩⟩⟩) (fun ci h => by
      have h := Nat.eq_of_beq_eq_true h
      subst h
      exact ⟨_, _, rfl⟩) (by decide +kernel) ⟨by decide, by decide, by decide +kernel⟩ ⟨by decide, by decide⟩
    · exact zk_coU (idx := 78) (x := ⟨"ClerestoryPlan$Exit", "distanceTo", "(II)I"⟩) X (ct_X2_distanceTo hl E) (List.forall_mem_cons.mpr ⟨zk_wi 134 (by decide +kernel) rfl, List.forall_mem_cons.mpr ⟨zk_wi 136 (by decide +kernel) rfl, List.forall_mem_cons.mpr ⟨zk_wi 135 (by decide +kernel) rfl, List.forall_mem_cons.mpr ⟨zk_wi 16 (by decide +kernel) rfl, List.forall_mem_cons.mpr ⟨zk_wi 139 (by decide +kernel) rfl, fun _ h => absurd h List.not_mem_nil⟩⟩⟩⟩⟩) (fun ci h => by
      rw [Bool.or_eq_true] at h
      rcases h with h | h
      · have h := Nat.eq_of_beq_eq_true h
        subst h
        exact ⟨_, _, _, rfl, zk_wi 137 (by decide +kernel) rfl⟩
      · have h := Nat.eq_of_beq_eq_true h
        subst h
        exact ⟨_, _, _, rfl, zk_wi 138 (by decide +kernel) rfl⟩) rfl (by decide +kernel) ⟨by decide, by decide, by decide +kernel⟩ ⟨by decide, by decide⟩


