/-! what the class's plan tells is what the reference's rows tell -/
def ef (N : Nat → Nat → Int32) (i : Nat) : Int32 := if i < 40 then N 30 i else N 42 (i - 40)
def et (N : Nat → Nat → Int32) (i : Nat) : Int32 := if i < 40 then N 31 i else N 43 (i - 40)
def MX (J N : Nat → Nat → Int32) (i : Nat) : Prop := (i < 40 ∧ MD J N i) ∨ (¬ i < 40 ∧ MT J N (i - 40))
def eo (N : Nat → Nat → Int32) (i : Nat) : Prop := i < 40 → N 36 i = 0
theorem d2e (i : Nat) : 2 * i / 2 = i ∧ (2 * i + 1) / 2 = i ∧ 2 * i % 2 = 0 ∧ (2 * i + 1) % 2 = 1 := by omega
theorem into_e (N : Nat → Nat → Int32) (i : Nat) : m_into N (2 * i) = et N i ∧ m_into N (2 * i + 1) = ef N i := by
  obtain ⟨e1, e2, e3, e4⟩ := d2e i
  unfold m_into et ef
  rw [e1, e2, e3, e4]
  constructor
  · simp
  · simp
theorem px_o (N : Nat → Nat → Int32) (i : Nat) : m_px N (2 * i + 1) = m_px N (2 * i) ∧ m_py N (2 * i + 1) = m_py N (2 * i) := by
  obtain ⟨e1, e2, -, -⟩ := d2e i
  unfold m_px m_py
  rw [e1, e2]
  exact ⟨rfl, rfl⟩
theorem steep_o (i : Nat) : steep (2 * i + 1) = steep (2 * i) := by
  obtain ⟨e1, e2, -, -⟩ := d2e i
  unfold steep
  rw [e1, e2]
theorem from_no {J N : Nat → Nat → Int32} {i : Nat} (h : ¬ (MX J N i ∧ eo N i)) : m_from J N (2 * i) = -2 ∧ m_from J N (2 * i + 1) = -2 := by
  obtain ⟨e1, e2, e3, e4⟩ := d2e i
  unfold m_from
  rw [e1, e2]
  by_cases k : i < 40
  · rw [if_pos k]
    have : m_nd J ≤ i ∨ N 30 i = -2 ∨ ¬ N 36 i = 0 := by
      by_cases a : m_nd J ≤ i
      · exact Or.inl a
      · by_cases b : N 30 i = -2
        · exact Or.inr (Or.inl b)
        · refine Or.inr (Or.inr fun c => h ⟨Or.inl ⟨k, by omega, b⟩, fun _ => c⟩)
    rw [if_pos this]
    exact ⟨rfl, by rw [if_pos k, if_pos this]⟩
  · rw [if_neg k]
    have : m_ns J ≤ i - 40 ∨ N 42 (i - 40) = -2 := by
      by_cases a : m_ns J ≤ i - 40
      · exact Or.inl a
      · refine Or.inr (Decidable.byContradiction fun b => h ⟨Or.inr ⟨k, by omega, b⟩, fun w => absurd w k⟩)
    rw [if_pos this]
    exact ⟨rfl, by rw [if_neg k, if_pos this]⟩
theorem from_yes {J N : Nat → Nat → Int32} {i : Nat} (hmi : MI J N) (h : MX J N i) (ho : eo N i) : m_from J N (2 * i) = ef N i ∧ m_from J N (2 * i + 1) = if et N i = -1 then -2 else et N i := by
  obtain ⟨e1, e2, e3, e4⟩ := d2e i
  unfold m_from ef et
  rw [e1, e2, e3, e4]
  rcases h with ⟨k, h1, h2⟩ | ⟨k, h1, h2⟩
  · have n1 : ¬ (m_nd J ≤ i ∨ N 30 i = -2 ∨ ¬ N 36 i = 0) := by
      rintro (a | a | a)
      · omega
      · exact h2 a
      · exact a (ho k)
    simp [k, n1]
  · have n1 : ¬ (m_ns J ≤ i - 40 ∨ N 42 (i - 40) = -2) := by
      rintro (a | a)
      · omega
      · exact h2 a
    have n2 : ¬ N 43 (i - 40) = -1 := by
      rcases (hmi.2.2.2.2.1 (i - 40) h1).1 with a | ⟨r, -, -, q, q1, -, q3⟩
      · exact absurd a h2
      · rw [q3]; exact nI_ne1 (by have := q1.lt hmi; omega)
    simp [k, n1, n2]
theorem ends_e {J N : Nat → Nat → Int32} {i : Nat} (hmi : MI J N) (h : MX J N i) : ∃ r, MR J N r ∧ ef N i = nI r ∧ (et N i = -1 ∨ ∃ q, MR J N q ∧ q ≠ r ∧ et N i = nI q) := by
  unfold ef et
  rcases h with ⟨k, h1, h2⟩ | ⟨k, h1, h2⟩
  · rw [if_pos k, if_pos k]
    rcases (hmi.2.2.1 i h1).1 with a | a
    · exact absurd a h2
    · exact a
  · rw [if_neg k, if_neg k]
    rcases (hmi.2.2.2.2.1 (i - 40) h1).1 with a | ⟨r, r1, r2, a⟩
    · exact absurd a h2
    · exact ⟨r, r1, r2, Or.inr a⟩
section XRS
variable {E : zk_E} {sz : Nat} {J N J1 N1 : Nat → Nat → Int32} {Q : Nat → Nat → Option Nat} {O : zk_Hp} {U : zk_U} {fl : Nat → Int32}
theorem XR.exn (h : XR E sz (J1, N1, Q, O, U) J N fl) {i : Nat} (hi : i < 50) : xat Q i = none ↔ ¬ MX J N i := by
  unfold xat MX
  by_cases k : i < 40
  · rw [if_pos k]
    rcases h.2.2.1 i k with ⟨a, p, h0, h1, -⟩ | ⟨h0, h1⟩
    · exact ⟨fun w => absurd (h1.symm.trans w) (by simp), fun w => absurd (Or.inl ⟨k, h0⟩) w⟩
    · exact ⟨fun _ w => w.elim (fun z => h0 z.2) (fun z => z.1 k), fun _ => h1⟩
  · rw [if_neg k]
    rcases h.2.2.2.2.1 (i - 40) (by omega) with ⟨a, h0, h1, -⟩ | ⟨h0, h1⟩
    · exact ⟨fun w => absurd (h1.symm.trans w) (by simp), fun w => absurd (Or.inr ⟨k, h0⟩) w⟩
    · exact ⟨fun _ w => w.elim (fun z => k z.1) (fun z => h0 z.2), fun _ => h1⟩
theorem px_s {N : Nat → Nat → Int32} {i : Nat} (k : ¬ i < 40) : m_px N (2 * i) = 2 * N 44 (i - 40) ∧ m_py N (2 * i) = 2 * N 45 (i - 40) := by
  obtain ⟨e1, -, -, -⟩ := d2e i
  unfold m_px m_py
  rw [e1, if_neg k, if_neg k]
  exact ⟨rfl, rfl⟩
theorem XR.ex (h : XR E sz (J1, N1, Q, O, U) J N fl) {i a : Nat} (hi : i < 50) (hq : xat Q i = some a) : MX J N i ∧ OKA E sz a ∧ ∃ ci fw sh rest, (ci = 1 ∨ ci = 6) ∧ O a = some (cX ci (rq Q (ef N i)) (rq Q (et N i)) (m_px N (2 * i)) (m_py N (2 * i)) (nI (steep (2 * i))) fw sh rest) ∧ (sh = 0 ↔ eo N i) ∧ fw = if i < 40 then fl i else 3 := by
  obtain ⟨e1, -, -, -⟩ := d2e i
  unfold xat at hq
  unfold MX ef et eo
  by_cases k : i < 40
  · rw [if_pos k] at hq
    obtain ⟨h0, h1, p, h2, h3, h4⟩ := h.2.2.1.back k hq
    have es : nI (steep (2 * i)) = 0 := by unfold steep; rw [e1, if_pos k]; rfl
    rw [if_pos k, if_pos k, es]
    exact ⟨Or.inl ⟨k, h0⟩, h1, 1, fl i, N 36 i, [.ref p], Or.inl rfl, h3, ⟨fun w _ => w, fun w => w k⟩, by rw [if_pos k]⟩
  · rw [if_neg k] at hq
    obtain ⟨h0, h1, h2⟩ := h.2.2.2.2.1.back (by omega) hq
    have es : nI (steep (2 * i)) = 20 := by unfold steep; rw [e1, if_neg k]; rfl
    obtain ⟨p1, p2⟩ := px_s (N := N) k
    rw [if_neg k, if_neg k, es, p1, p2]
    exact ⟨Or.inr ⟨k, h0⟩, h1, 6, 3, 0, [], Or.inr rfl, h2, ⟨fun _ w => absurd w k, fun _ => rfl⟩, by rw [if_neg k]⟩
/-- exits of a room that are not shut, both ways of counting -/
theorem XR.opn (h : XR E sz (J1, N1, Q, O, U) J N fl) (hmi : MI J N) {j b : Nat} (hj : MR J N j) (hb : Q 2 j = some b) : ∀ n, n ≤ 50 → g_ex J N (nI j) (m_actN J N (2 * n)) = cntB (x_opn Q O b) n
  | 0, _ => rfl
  | n + 1, hn => by
    have hj20 := hj.lt hmi
    have ih := h.opn hmi hj hb n (by omega)
    unfold g_ex at ih ⊢
    rw [show 2 * (n + 1) = 2 * n + 1 + 1 by omega, m_actN_succ, m_actN_succ, List.countP_append, List.countP_append, ih, cntB_succ, Nat.add_assoc]
    congr 1
    have c1 : ∀ e, List.countP (fun e => decide (m_from J N e = nI j)) (if m_from J N e = -2 then [] else [e]) = if m_from J N e = nI j then 1 else 0 := fun e => by
      by_cases q : m_from J N e = -2
      · rw [if_pos q, q, if_neg (fun w => nI_ne2 (r := j) (by omega) w.symm)]; rfl
      · rw [if_neg q]
        by_cases q2 : m_from J N e = nI j
        · rw [if_pos q2]; simp [q2]
        · rw [if_neg q2]; simp [q2]
    rw [c1, c1]
    cases q : xat Q n with
    | none =>
      have nx := (h.exn (by omega)).mp q
      obtain ⟨f1, f2⟩ := from_no (J := J) (N := N) (i := n) (fun w => nx w.1)
      have e0 : x_opn Q O b n = false := by unfold x_opn; rw [q]
      rw [f1, f2, e0, if_neg (fun w => nI_ne2 (r := j) (by omega) w.symm)]
      rfl
    | some a =>
      obtain ⟨hx, -, ci, fw, sh, rest, -, hO, hsh, -⟩ := h.ex (by omega) q
      obtain ⟨r, r1, r2, r3⟩ := ends_e hmi hx
      have e0 : x_opn Q O b n = (decide (sh = 0) && (decide (rq Q (ef N n) = some b) || decide (rq Q (et N n) = some b))) := by
        unfold x_opn x_of
        rw [q]
        dsimp only
        rw [hO]
        simp only [fI_X, fR_X]
      have q1 := h.2.1.rqe hmi (x := ef N n) (Or.inr ⟨r, r1, r2⟩) hj hb
      have q2 := h.2.1.rqe hmi (x := et N n) (r3.imp id (fun ⟨q, a1, a2, a3⟩ => ⟨q, a1, a3⟩)) hj hb
      rw [e0]
      simp only [q1, q2]
      by_cases o : eo N n
      · obtain ⟨f1, f2⟩ := from_yes hmi hx o
        rw [f1, f2, decide_eq_true (hsh.mpr o), Bool.true_and]
        rcases r3 with r3 | ⟨q', a1, a2, a3⟩
        · have z : ¬ (-2 : Int32) = nI j := fun w => nI_ne2 (r := j) (by omega) w.symm
          have z1 : ¬ (-1 : Int32) = nI j := fun w => nI_ne1 (r := j) (by omega) w.symm
          rw [r3, if_pos rfl, if_neg z]
          by_cases w : ef N n = nI j
          · simp [w]
          · simp [w, z1]
        · have l1 := a1.lt hmi
          have l2 := r1.lt hmi
          rw [r2, a3, if_neg (nI_ne1 (by omega))]
          have i1 : (nI r = nI j) = (r = j) := n_inj (by omega) (by omega)
          have i2 : (nI q' = nI j) = (q' = j) := n_inj (by omega) (by omega)
          simp only [i1, i2]
          by_cases w1 : r = j
          · have w2 : ¬ q' = j := by omega
            simp [w1, w2]
          · by_cases w2 : q' = j
            · simp [w1, w2]
            · simp [w1, w2]
      · obtain ⟨f1, f2⟩ := from_no (J := J) (N := N) (i := n) (fun w => o w.2)
        rw [f1, f2, decide_eq_false (fun w => o (hsh.mp w)), Bool.false_and, if_neg (fun w => nI_ne2 (r := j) (by omega) w.symm)]
        rfl
theorem XR.opn50 (h : XR E sz (J1, N1, Q, O, U) J N fl) (hmi : MI J N) {j b : Nat} (hj : MR J N j) (hb : Q 2 j = some b) : cntB (x_opn Q O b) 50 = a_ex J N (nI j) := (h.opn hmi hj hb 50 (Nat.le_refl _)).symm
theorem XR.wide (h : XR E sz (J1, N1, Q, O, U) J N fl) (hmi : MI J N) {j b : Nat} (hj : MR J N j) (hb : Q 2 j = some b) : m_sum (w_wide Q O b) 40 = m_light J N (nI j) := by
  have hw40 := hmi.1.2.2.1.2
  have hj20 := hj.lt hmi
  unfold m_light
  have key : ∀ k, k < 40 → w_wide Q O b k = if k < m_nw J then m_lf N (nI j) k else 0 := fun k hk => by
    unfold w_wide m_lf
    rcases h.2.2.2.1 k hk with ⟨a, p, b2, h0, h1, -, -, h4, h5, h6⟩ | ⟨h0, h1⟩
    · rcases (hmi.2.2.2.1 k h0.1).1 with z | ⟨r, r1, r2⟩
      · exact absurd z h0.2
      · have r20 := r1.lt hmi
        rw [show Q 4 k = some a from h1, if_pos h0.1]
        dsimp only
        rw [show O a = some (cW b2 p) from h5]
        have e1 : fR (some (cW b2 p)) 0 = some b2 := rfl
        have e2 : fR (some (cW b2 p)) 1 = some p := rfl
        rw [e1, e2]
        have e3 : fI (fO O (some p)) 4 = N 40 k := by unfold fO; dsimp only; rw [show O p = some (xwp N k) from h6]; rfl
        rw [e3, r2]
        rw [r2, n_cl (by omega)] at h4
        by_cases w : r = j
        · subst w
          rw [show Q 2 r = some b2 from h4] at hb
          rw [if_pos hb, if_pos rfl]
        · rw [if_neg (fun z => w (h.2.1.inj r20 hj20 (by rw [h4]; exact z) hb)), if_neg (by rw [n_inj (by omega) (by omega)]; exact w)]
    · rw [show Q 4 k = none from h1]
      dsimp only
      by_cases w : k < m_nw J
      · rw [if_pos w]
        have : N 37 k = -2 := Decidable.byContradiction fun z => h0 ⟨w, z⟩
        rw [this, if_neg (fun z => nI_ne2 (r := j) (by omega) z.symm)]
      · rw [if_neg w]
  rw [show 40 = m_nw J + (40 - m_nw J) by omega, m_sum_skip (f := w_wide Q O b)]
  · exact m_sum_cong (fun k hk => by rw [key k (by omega), if_pos hk])
  · intro i h1 h2
    rw [key i (by omega), if_neg (by omega)]
theorem XR.wet (h : XR E sz (J1, N1, Q, O, U) J N fl) (hmi : MI J N) {j b : Nat} (hj : MR J N j) (hb : Q 2 j = some b) : m_sum (r_wet Q O (O b)) 20 = a_wet J N j := by
  have hr20 := hmi.1.1.2
  have hj20 := hj.lt hmi
  unfold a_wet
  have hOb := (h.2.1.back hj20 hb).2.2
  have key : ∀ r, r < 20 → r_wet Q O (O b) r = if r < m_nr J then m_wf N j r else 0 := fun r hr => by
    unfold r_wet m_wf
    rcases h.2.1 r hr with ⟨a, h0, h1, -, h2⟩ | ⟨h0, h1⟩
    · rw [show Q 2 r = some a from h1, if_pos h0.1]
      dsimp only
      rw [show O a = some (xrm N r) from h2, show O b = some (xrm N j) from hOb]
      have e1 : fI (some (xrm N r)) 6 = N 28 r := rfl
      have e2 : fI (some (xrm N r)) 1 = N 23 r := rfl
      have e3 : fI (some (xrm N j)) 1 = N 23 j := rfl
      have e4 : m_cm (some (xrm N j)) (some (xrm N r)) = m_area N j r := rfl
      rw [e1, e2, e3, e4]
      by_cases w : N 28 r = 0 ∧ N 23 r = N 23 j - 1
      · rw [if_pos w, if_pos ⟨h0.2, w.2, w.1⟩]
      · rw [if_neg w, if_neg (fun z => w ⟨z.2.2, z.2.1⟩)]
    · rw [show Q 2 r = none from h1]
      dsimp only
      by_cases w : r < m_nr J
      · rw [if_pos w, if_neg (fun z => h0 ⟨w, z.1⟩)]
      · rw [if_neg w]
  rw [show 20 = m_nr J + (20 - m_nr J) by omega, m_sum_skip (f := r_wet Q O (O b))]
  · exact m_sum_cong (fun k hk => by rw [key k (by omega), if_pos hk])
  · intro i h1 h2
    rw [key i (by omega), if_neg (by omega)]
theorem XR.hit (h : XR E sz (J1, N1, Q, O, U) J N fl) (hmi : MI J N) {fl' x y w hh u nn p : Int32} (hfl : ¬ fl' = -2) : m_ex (r_hit Q O (some (cR nn fl' x y w hh u p))) 20 = m_ex (m_hit N fl' x y w hh) (m_nr J) := by
  have hr20 := hmi.1.1.2
  have key : ∀ r, r < 20 → r_hit Q O (some (cR nn fl' x y w hh u p)) r = (decide (r < m_nr J) && m_hit N fl' x y w hh r) := fun r hr => by
    unfold r_hit m_hit
    rcases h.2.1 r hr with ⟨a, h0, h1, -, h2⟩ | ⟨h0, h1⟩
    · rw [show Q 2 r = some a from h1, decide_eq_true h0.1, Bool.true_and]
      dsimp only
      rw [show O a = some (xrm N r) from h2]
      rfl
    · rw [show Q 2 r = none from h1]
      dsimp only
      by_cases w : r < m_nr J
      · have : N 23 r = -2 := Decidable.byContradiction fun z => h0 ⟨w, z⟩
        rw [this, decide_eq_false (show ¬ (-2 : Int32) = fl' from fun z => hfl z.symm), Bool.false_and, Bool.and_false]
      · rw [decide_eq_false w, Bool.false_and]
  rw [show 20 = m_nr J + (20 - m_nr J) by omega, m_ex_skip (p := r_hit Q O (some (cR nn fl' x y w hh u p)))]
  · exact m_ex_cong (fun k hk => by rw [key k (by omega), decide_eq_true hk, Bool.true_and])
  · intro i h1 h2
    rw [key i (by omega), decide_eq_false (by omega), Bool.false_and]
end XRS


