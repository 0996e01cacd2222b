/-! the class's ways: numbers -/
/-- a way as the class keeps it -/
def wi (n : Nat) : Int32 := if n = INF then -1 else nI n
def wl (s L : Nat) : Int32 := if L = INF then -1 else nI (L + s)
/-- a bound of what is told -/
def WB (v : Nat → Nat) (B : Nat) : Prop := ∀ e, v e ≤ INF ∧ (v e < INF → v e ≤ B)
theorem w_less_wi {a b : Nat} (ha : a ≤ INF) (hb : b ≤ INF) : w_less (wi a) (wi b) = decide (a < b) := by
  unfold w_less wi
  unfold INF at *
  by_cases q1 : a = 268435456
  · rw [if_pos q1]
    have : ¬ a < b := by omega
    simp [this]
  · rw [if_neg q1]
    have n1 := nI_ne1 (r := a) (by omega)
    by_cases q2 : b = 268435456
    · rw [if_pos q2]
      have : a < b := by omega
      simp [this, n1]
    · rw [if_neg q2]
      have n2 := nI_ne1 (r := b) (by omega)
      by_cases q3 : a < b
      · have : nI a < nI b := nI_lt q3 (by omega)
        simp [this, n1, n2, q3]
      · have : ¬ nI a < nI b := nI_nlt (by omega) (by omega)
        simp [this, n1, n2, q3]
theorem w_less_wl {s x L : Nat} (hs : s ≤ 20) (hx : x ≤ 100000000) (hL : L ≤ INF) (hL2 : L < INF → L ≤ 100000000) : (w_less (nI (s + x)) (wl s L) = true ∧ wl s (min L x) = nI (s + x)) ∨ (w_less (nI (s + x)) (wl s L) = false ∧ wl s (min L x) = wl s L) := by
  unfold w_less wl
  unfold INF at *
  have n1 := nI_ne1 (r := s + x) (by omega)
  by_cases q2 : L = 268435456
  · left
    rw [if_pos q2, if_neg (by omega)]
    refine ⟨by simp [n1], ?_⟩
    congr 1
    omega
  · rw [if_neg q2]
    have n2 := nI_ne1 (r := L + s) (by omega)
    by_cases q3 : x < L
    · left
      rw [if_neg (by omega)]
      have : nI (s + x) < nI (L + s) := nI_lt (by omega) (by omega)
      refine ⟨by simp [n1, n2, this], ?_⟩
      congr 1
      omega
    · right
      have : ¬ nI (s + x) < nI (L + s) := nI_nlt (by omega) (by omega)
      refine ⟨by simp [n1, n2, this], ?_⟩
      rw [show min L x = L by omega, if_neg q2]
theorem fm_succ {J N : Nat → Nat → Int32} {j : Nat} {but : Int32} {v : Nat → Nat} {f : Nat → Nat} (hj : j < 20) (n b : Nat) : fmin (g_c J N (nI j) but v) f (m_actN J N (n + 1)) b = if g_c J N (nI j) but v n = true then min (fmin (g_c J N (nI j) but v) f (m_actN J N n) b) (f n) else fmin (g_c J N (nI j) but v) f (m_actN J N n) b := by
  rw [m_actN_succ]
  by_cases q : m_from J N n = -2
  · rw [if_pos q, List.append_nil, if_neg]
    unfold g_c
    rw [q, decide_eq_false (show ¬ (-2 : Int32) = nI j from fun w => nI_ne2 (r := j) (by omega) w.symm)]
    simp
  · rw [if_neg q, fmin_app]
theorem fmin_B {c : Nat → Bool} {f : Nat → Nat} {C : Nat} : ∀ (L : List Nat) (b : Nat), (∀ e ∈ L, c e = true → f e ≤ C) → fmin c f L b < b → fmin c f L b ≤ C
  | [], b, _, h => absurd h (Nat.lt_irrefl _)
  | e :: L, b, hf, h => by
    have e0 : fmin c f (e :: L) b = fmin c f L (if c e then min b (f e) else b) := rfl
    rw [e0] at h ⊢
    by_cases q : c e = true
    · rw [if_pos q] at h ⊢
      have h2 := fmin_le_init c f L (min b (f e))
      have h3 := hf e List.mem_cons_self q
      by_cases w : fmin c f L (min b (f e)) < min b (f e)
      · exact fmin_B L _ (fun x hx => hf x (List.mem_cons_of_mem _ hx)) w
      · omega
    · rw [if_neg q] at h ⊢
      exact fmin_B L b (fun x hx => hf x (List.mem_cons_of_mem _ hx)) h
theorem act_dir {J N : Nat → Nat → Int32} {i : Nat} (hmi : MI J N) (hi : i < 50) (h : MX J N i) (ho : eo N i) : 2 * i ∈ m_act J N ∧ (¬ et N i = -1 → 2 * i + 1 ∈ m_act J N) ∧ (et N i = -1 → 2 * i + 1 ∉ m_act J N) := by
  obtain ⟨f1, f2⟩ := from_yes hmi h ho
  obtain ⟨r, r1, r2, r3⟩ := ends_e hmi h
  have r20 := r1.lt hmi
  refine ⟨m_act_mem.mpr ⟨by omega, by rw [f1, r2]; exact nI_ne2 (by omega)⟩, fun q => m_act_mem.mpr ⟨by omega, ?_⟩, fun q w => ?_⟩
  · rw [f2, if_neg q]
    rcases r3 with r3 | ⟨q', a1, a2, a3⟩
    · exact absurd r3 q
    · rw [a3]; exact nI_ne2 (by have := a1.lt hmi; omega)
  · have := (m_act_mem.mp w).2
    rw [f2, if_pos q] at this
    exact this rfl
theorem act_no {J N : Nat → Nat → Int32} {i : Nat} (h : ¬ (MX J N i ∧ eo N i)) : 2 * i ∉ m_act J N ∧ 2 * i + 1 ∉ m_act J N := by
  obtain ⟨f1, f2⟩ := from_no h
  exact ⟨fun w => (m_act_mem.mp w).2 f1, fun w => (m_act_mem.mp w).2 f2⟩
/-- the ways that the class has now -/
def WV (J N N1 : Nat → Nat → Int32) (v : Nat → Nat) (B : Nat) : Prop := (∀ i, i < 50 → N1 8 i = wi (v (2 * i)) ∧ N1 9 i = wi (v (2 * i + 1))) ∧ WB v B ∧ ∀ e, e ∉ m_act J N → v e = INF
/-- the least on from an exit, as the class adds it up -/
def g_on (J N : Nat → Nat → Int32) (v : Nat → Nat) (j ix : Nat) : Nat := g_least J N v (nI j) (nI ix) (g_x N (2 * ix)) (g_y N (2 * ix))
theorem g_on_B {J N : Nat → Nat → Int32} {v : Nat → Nat} {j ix B : Nat} (hmi : MI J N) (hb : WB v B) (hix : GX N (2 * ix)) : g_on J N v j ix ≤ INF ∧ (g_on J N v j ix < INF → g_on J N v j ix ≤ B + 800) := by
  refine ⟨fmin_le_init _ _ _ _, fun h => fmin_B _ _ (fun e he hc => ?_) h⟩
  have hg := m_gx hmi he
  have hd := dN_le hg.1.2 hg.2.2 hix.1.2 hix.2.2
  have hv := (hb e).2 (g_c_iff.mp hc).2.2
  unfold g_f
  omega
theorem FF_on {J N : Nat → Nat → Int32} {v : Nat → Nat} {j ix e B : Nat} (hmi : MI J N) (hb : WB v B) (hB : B ≤ 100000000) (he : e = 2 * ix ∨ e = 2 * ix + 1) (hx : GX N (2 * ix)) (hj : j < 20) (hin : m_into N e = nI j) : wl (steep (2 * ix)) (g_on J N v j ix) = wi (FF J N v e) ∧ (FF J N v e < INF → FF J N v e ≤ B + 820) := by
  obtain ⟨h1, h2⟩ := g_on_B (j := j) hmi hb hx
  have hs : steep (2 * ix) ≤ 20 := by unfold steep; split <;> omega
  have e2 : e / 2 = ix := by omega
  have es : steep e = steep (2 * ix) := by rcases he with rfl | rfl; rfl; exact steep_o ix
  have ex : g_x N e = g_x N (2 * ix) ∧ g_y N e = g_y N (2 * ix) := by
    rcases he with rfl | rfl
    · exact ⟨rfl, rfl⟩
    · unfold g_x g_y; rw [(px_o N ix).1, (px_o N ix).2]; exact ⟨rfl, rfl⟩
  have hF : FF J N v e = min INF (g_on J N v j ix + steep (2 * ix)) := by
    unfold FF g_on
    rw [if_neg (by rw [hin]; exact nI_ne1 (by omega)), hin, e2, es, ex.1, ex.2]
  rw [hF]
  unfold wl wi
  unfold INF at *
  by_cases q : g_on J N v j ix = 268435456
  · rw [if_pos q, q, if_pos (by omega)]
    exact ⟨rfl, fun w => by omega⟩
  · have := h2 (by omega)
    rw [if_neg q, if_neg (by omega)]
    refine ⟨?_, fun w => by omega⟩
    congr 1
    omega


