/-! the ways as rounds: the first hundred rounds tell all -/
theorem pigeon : ∀ (n : Nat) (g : Nat → Nat), (∀ i, i ≤ n → g i < n) → ∃ i j, i < j ∧ j ≤ n ∧ g i = g j
  | 0, g, h => absurd (h 0 (Nat.le_refl 0)) (Nat.not_lt_zero _)
  | n + 1, g, h => by
    by_cases hx : ∃ i, i ≤ n ∧ g i = g (n + 1)
    · obtain ⟨i, h1, h2⟩ := hx
      exact ⟨i, n + 1, by omega, Nat.le_refl _, h2⟩
    · have hne : ∀ i, i ≤ n → g i ≠ g (n + 1) := fun i hi e => hx ⟨i, hi, e⟩
      have hl := h (n + 1) (Nat.le_refl _)
      obtain ⟨i, j, h1, h2, h3⟩ := pigeon n (fun i => if g (n + 1) < g i then g i - 1 else g i) (fun i hi => by
        have h1 := hne i hi
        have h2 := h i (by omega)
        show (if g (n + 1) < g i then g i - 1 else g i) < n
        split <;> omega)
      refine ⟨i, j, h1, by omega, ?_⟩
      have q1 := hne i (by omega)
      have q2 := hne j (by omega)
      split at h3 <;> split at h3 <;> omega
def steep (e : Nat) : Nat := if e / 2 < 40 then 0 else 20
/-- one round, for one direction -/
def FF (J N : Nat → Nat → Int32) (v : Nat → Nat) (e : Nat) : Nat :=
  if m_into N e = -1 then 0 else min INF (g_least J N v (m_into N e) (nI (e / 2)) (g_x N e) (g_y N e) + steep e)
def DD (J N : Nat → Nat → Int32) : Nat → Nat → Nat
  | 0 => fun _ => INF
  | k + 1 => FF J N (DD J N k)
theorem FF_le_INF (J N : Nat → Nat → Int32) (v : Nat → Nat) (e : Nat) : FF J N v e ≤ INF := by
  unfold FF
  split
  · exact Nat.zero_le _
  · exact Nat.min_le_left _ _
theorem DD_le_INF (J N : Nat → Nat → Int32) : ∀ k e, DD J N k e ≤ INF
  | 0, _ => Nat.le_refl _
  | _ + 1, _ => FF_le_INF _ _ _ _
theorem g_c_iff {J N : Nat → Nat → Int32} {r b : Int32} {v : Nat → Nat} {e : Nat} : g_c J N r b v e = true ↔ nI (e / 2) ≠ b ∧ m_from J N e = r ∧ v e < INF := by
  simp [g_c]
theorem g_least_le {J N : Nat → Nat → Int32} {v : Nat → Nat} {r b : Int32} {x y t : Nat} : g_least J N v r b x y ≤ t ↔ INF ≤ t ∨ ∃ e ∈ m_act J N, (nI (e / 2) ≠ b ∧ m_from J N e = r ∧ v e < INF) ∧ dN (g_x N e) (g_y N e) x y + v e ≤ t := by
  unfold g_least
  rw [fmin_le]
  simp only [g_c_iff]
  rfl
theorem g_least_mono {J N : Nat → Nat → Int32} {v v2 : Nat → Nat} {r b : Int32} {x y : Nat} (h : ∀ e ∈ m_act J N, v e ≤ v2 e) : g_least J N v r b x y ≤ g_least J N v2 r b x y := by
  rw [g_least_le]
  rcases (g_least_le (J := J) (N := N) (v := v2) (r := r) (b := b) (x := x) (y := y)).mp (Nat.le_refl _) with q | ⟨e, q1, q2, q3⟩
  · exact Or.inl q
  · have := h e q1
    exact Or.inr ⟨e, q1, ⟨q2.1, q2.2.1, by omega⟩, by omega⟩
theorem FF_mono {J N : Nat → Nat → Int32} {v v2 : Nat → Nat} {e : Nat} (h : ∀ e ∈ m_act J N, v e ≤ v2 e) : FF J N v e ≤ FF J N v2 e := by
  unfold FF
  split
  · exact Nat.le_refl _
  · have := g_least_mono (r := m_into N e) (b := nI (e / 2)) (x := g_x N e) (y := g_y N e) h
    omega
theorem FF_congr {J N : Nat → Nat → Int32} {v v2 : Nat → Nat} {e : Nat} (h : ∀ e ∈ m_act J N, v e = v2 e) : FF J N v e = FF J N v2 e :=
  Nat.le_antisymm (FF_mono fun e he => Nat.le_of_eq (h e he)) (FF_mono fun e he => Nat.le_of_eq (h e he).symm)
theorem DD_anti1 (J N : Nat → Nat → Int32) : ∀ k e, DD J N (k + 1) e ≤ DD J N k e
  | 0, e => FF_le_INF _ _ _ _
  | k + 1, e => FF_mono fun e _ => DD_anti1 J N k e
theorem DD_anti {J N : Nat → Nat → Int32} {i j : Nat} (h : i ≤ j) (e : Nat) : DD J N j e ≤ DD J N i e := by
  induction j with
  | zero => rw [Nat.le_zero.mp h]; exact Nat.le_refl _
  | succ j ih =>
    rcases Nat.lt_or_ge i (j + 1) with q | q
    · exact Nat.le_trans (DD_anti1 J N j e) (ih (by omega))
    · rw [show i = j + 1 by omega]; exact Nat.le_refl _
theorem DD_drop {J N : Nat → Nat → Int32} {k e : Nat} (h : DD J N (k + 2) e < DD J N (k + 1) e) :
    ∃ f ∈ m_act J N, DD J N (k + 1) f < DD J N k f ∧ DD J N (k + 1) f ≤ DD J N (k + 2) e := by
  have hi := DD_le_INF J N (k + 1) e
  have h0 : FF J N (DD J N (k + 1)) e < FF J N (DD J N k) e := h
  have e2 : DD J N (k + 2) e = FF J N (DD J N (k + 1)) e := rfl
  have e1 : DD J N (k + 1) e = FF J N (DD J N k) e := rfl
  rw [e2]
  rw [e1] at hi
  unfold FF at h0 hi ⊢
  split at h0
  · omega
  · next hq =>
    rw [if_neg hq] at hi
    rcases (g_least_le (J := J) (N := N) (v := DD J N (k + 1)) (r := m_into N e) (b := nI (e / 2)) (x := g_x N e) (y := g_y N e)).mp (Nat.le_refl _) with q | ⟨f, q1, q2, q3⟩
    · omega
    · refine ⟨f, q1, ?_, by rw [if_neg hq]; omega⟩
      have ha := DD_anti1 J N k f
      rcases Nat.eq_or_lt_of_le ha with w | w
      · exfalso
        have : g_least J N (DD J N k) (m_into N e) (nI (e / 2)) (g_x N e) (g_y N e) ≤ g_least J N (DD J N (k + 1)) (m_into N e) (nI (e / 2)) (g_x N e) (g_y N e) :=
          g_least_le.mpr (Or.inr ⟨f, q1, ⟨q2.1, q2.2.1, by rw [← w]; exact q2.2.2⟩, by rw [← w]; exact q3⟩)
        omega
      · exact w
theorem DD_chain {J N : Nat → Nat → Int32} : ∀ (k e : Nat), e ∈ m_act J N → DD J N (k + 1) e < DD J N k e →
    ∃ g : Nat → Nat, (∀ i, i ≤ k → g i ∈ m_act J N ∧ DD J N (i + 1) (g i) < DD J N i (g i)) ∧ (∀ i j, i ≤ j → j ≤ k → DD J N (i + 1) (g i) ≤ DD J N (j + 1) (g j)) ∧ g k = e
  | 0, e, he, h => ⟨fun _ => e, fun i hi => by rw [Nat.le_zero.mp hi]; exact ⟨he, h⟩, fun i j h1 h2 => by rw [show j = 0 by omega, show i = 0 by omega]; exact Nat.le_refl _, rfl⟩
  | k + 1, e, he, h => by
    obtain ⟨f, f1, f2, f3⟩ := DD_drop h
    obtain ⟨g, g1, g2, g3⟩ := DD_chain k f f1 f2
    refine ⟨fun i => if i ≤ k then g i else e, ?_, ?_, if_neg (Nat.not_succ_le_self k)⟩
    · intro i hi
      by_cases q : i ≤ k
      · simp only [if_pos q]; exact g1 i q
      · simp only [if_neg q]; rw [show i = k + 1 by omega]; exact ⟨he, h⟩
    · intro i j h1 h2
      by_cases q : j ≤ k
      · simp only [if_pos q, if_pos (Nat.le_trans h1 q)]; exact g2 i j h1 q
      · by_cases q2 : i ≤ k
        · simp only [if_pos q2, if_neg q]
          have := g2 i k q2 (Nat.le_refl _)
          rw [g3] at this
          rw [show j = k + 1 by omega]
          exact Nat.le_trans this f3
        · simp only [if_neg q2, if_neg q]
          rw [show i = j by omega]; exact Nat.le_refl _
theorem DD_100 {J N : Nat → Nat → Int32} {e : Nat} (he : e ∈ m_act J N) : DD J N 101 e = DD J N 100 e := by
  rcases Nat.eq_or_lt_of_le (DD_anti1 J N 100 e) with h | h
  · exact h
  · exfalso
    obtain ⟨g, g1, g2, g3⟩ := DD_chain 100 e he h
    obtain ⟨i, j, h1, h2, h3⟩ := pigeon 100 g (fun i hi => (m_act_mem.mp (g1 i hi).1).1)
    have a1 := g2 i j (by omega) h2
    have a2 := (g1 j h2).2
    have a3 := DD_anti (J := J) (N := N) (i := i + 1) (j := j) (by omega) (g j)
    rw [h3] at a1
    omega
/-- the ways -/
def LL (J N : Nat → Nat → Int32) (e : Nat) : Nat := DD J N 100 e
theorem LL_fix {J N : Nat → Nat → Int32} {e : Nat} (he : e ∈ m_act J N) : FF J N (LL J N) e = LL J N e := DD_100 he
theorem LL_le_INF {J N : Nat → Nat → Int32} (e : Nat) : LL J N e ≤ INF := DD_le_INF _ _ _ _
/-- what lies below its own round lies below the ways -/
theorem LL_ge {J N : Nat → Nat → Int32} {v : Nat → Nat} (h0 : ∀ e ∈ m_act J N, v e ≤ INF) (h : ∀ e ∈ m_act J N, v e ≤ FF J N v e) {e : Nat} (he : e ∈ m_act J N) : v e ≤ LL J N e := by
  have : ∀ k, ∀ e ∈ m_act J N, v e ≤ DD J N k e := by
    intro k
    induction k with
    | zero => exact h0
    | succ k ih => exact fun e he => Nat.le_trans (h e he) (FF_mono ih)
  exact this 100 e he
theorem LL_out {J N : Nat → Nat → Int32} {e : Nat} (h : m_into N e = -1) : LL J N e = 0 := by
  show FF J N _ e = 0
  unfold FF
  rw [if_pos h]
theorem ES.gx {J J2 N N2 : Nat → Nat → Int32} (h : ES J J2 N N2) : g_x N2 = g_x N := by funext e; unfold g_x; rw [h.px]
theorem ES.gy {J J2 N N2 : Nat → Nat → Int32} (h : ES J J2 N N2) : g_y N2 = g_y N := by funext e; unfold g_y; rw [h.py]
theorem ES.act {J J2 N N2 : Nat → Nat → Int32} (h : ES J J2 N N2) : m_act J2 N2 = m_act J N := by unfold m_act m_actN; simp only [h.from]
theorem ES.least {J J2 N N2 : Nat → Nat → Int32} (h : ES J J2 N N2) : g_least J2 N2 = g_least J N := by
  funext v r b x y
  unfold g_least g_c g_f
  simp only [h.from, h.gx, h.gy, h.act]
theorem ES.ff {J J2 N N2 : Nat → Nat → Int32} (h : ES J J2 N N2) : FF J2 N2 = FF J N := by
  funext v e
  unfold FF
  simp only [h.least, h.gx, h.gy, h.into]
theorem ES.dd {J J2 N N2 : Nat → Nat → Int32} (h : ES J J2 N N2) : ∀ k, DD J2 N2 k = DD J N k
  | 0 => rfl
  | k + 1 => by
    show FF J2 N2 (DD J2 N2 k) = FF J N (DD J N k)
    rw [h.ff, h.dd k]
theorem ES.ll {J J2 N N2 : Nat → Nat → Int32} (h : ES J J2 N N2) : LL J2 N2 = LL J N := h.dd 100


