/-! the reference: faults -/
abbrev zk_F3 : Type := List (Int32 × Int32 × Int32)
def FTL (F : Nat → Int32) (L : zk_F3) : Prop := ∀ i (h : i < L.length), F (3 * i) = L[i].1 ∧ F (3 * i + 1) = L[i].2.1 ∧ F (3 * i + 2) = L[i].2.2
theorem FTL.nil (F : Nat → Int32) : FTL F [] := fun i h => absurd h (Nat.not_lt_zero i)
theorem FTL.app {F : Nat → Int32} {L : zk_F3} {q w m : Int32} (h : FTL F L) : FTL (upd (upd (upd F (3 * L.length) q) (3 * L.length + 1) w) (3 * L.length + 2) m) (L ++ [(q, w, m)]) := by
  intro i hi
  rw [List.length_append, List.length_singleton] at hi
  by_cases e : i = L.length
  · subst e
    rw [List.getElem_append_right (Nat.le_refl _)]
    simp only [Nat.sub_self, List.getElem_cons_zero]
    refine ⟨?_, ?_, ?_⟩
    · rw [upd_ne _ _ (by omega), upd_ne _ _ (by omega), upd_self]
    · rw [upd_ne _ _ (by omega), upd_self]
    · rw [upd_self]
  · have hi2 : i < L.length := by omega
    rw [List.getElem_append_left hi2, upd_ne _ _ (by omega), upd_ne _ _ (by omega), upd_ne _ _ (by omega), upd_ne _ _ (by omega), upd_ne _ _ (by omega), upd_ne _ _ (by omega), upd_ne _ _ (by omega), upd_ne _ _ (by omega), upd_ne _ _ (by omega)]
    exact h i hi2
/-- by how much the i-th of its kind breaks a rule -/
def a_amt (J N : Nat → Nat → Int32) (rule i : Nat) : Int32 :=
  if rule = 2 then (if i < m_nd J ∧ ¬ N 30 i = -2 then a_load J N i - N 46 2 * N 34 i else 0)
  else if rule = 8 then (if i < m_ns J ∧ ¬ N 42 i = -2 then a_load J N (40 + i) - N 46 8 else 0)
  else (if i < m_nr J ∧ ¬ N 23 i = -2 then a_by J N rule i else 0)
def a_tl (J N : Nat → Nat → Int32) (rule i : Nat) : zk_F3 := if a_amt J N rule i ≤ 0 then [] else [(nI rule, nI i, a_amt J N rule i)]
def a_told (J N : Nat → Nat → Int32) (rule : Nat) : Nat → zk_F3
  | 0 => []
  | i + 1 => a_told J N rule i ++ a_tl J N rule i
def a_num (rule : Nat) : Nat := if rule = 2 then 40 else if rule = 8 then 10 else 20
def a_fl (J N : Nat → Nat → Int32) : Nat → zk_F3
  | 0 => []
  | r + 1 => a_fl J N r ++ a_told J N r (a_num r)
theorem ES.amt {J J2 N N2 : Nat → Nat → Int32} (h : ES J J2 N N2) : a_amt J2 N2 = a_amt J N := by
  funext rule i; unfold a_amt
  rw [h.nd, h.ns, h.nr, h.a6, h.by, h.n (o := 23) (by decide), h.n (o := 30) (by decide), h.n (o := 34) (by decide), h.n (o := 42) (by decide), h.n (o := 46) (by decide)]
theorem ES.told {J J2 N N2 : Nat → Nat → Int32} (h : ES J J2 N N2) (rule : Nat) : ∀ n, a_told J2 N2 rule n = a_told J N rule n
  | 0 => rfl
  | n + 1 => by rw [a_told, a_told, h.told rule n, a_tl, a_tl, h.amt]
theorem ES.fl {J J2 N N2 : Nat → Nat → Int32} (h : ES J J2 N N2) : ∀ n, a_fl J2 N2 n = a_fl J N n
  | 0 => rfl
  | n + 1 => by rw [a_fl, a_fl, h.fl n, h.told]
theorem a_told_len (J N : Nat → Nat → Int32) (rule : Nat) : ∀ n, (a_told J N rule n).length ≤ n
  | 0 => Nat.le_refl _
  | n + 1 => by
    have := a_told_len J N rule n
    have h2 : (a_tl J N rule n).length ≤ 1 := by unfold a_tl; split <;> simp
    rw [a_told, List.length_append]
    omega
theorem a_fl_len (J N : Nat → Nat → Int32) : ∀ n, (a_fl J N n).length ≤ 40 * n
  | 0 => Nat.le_refl _
  | n + 1 => by
    have := a_fl_len J N n
    have := a_told_len J N n (a_num n)
    have h2 : a_num n ≤ 40 := by unfold a_num; split <;> (try split) <;> omega
    rw [a_fl, List.length_append]
    omega
theorem a_told_skip {J N : Nat → Nat → Int32} {rule n : Nat} : ∀ k, (∀ i, n ≤ i → a_amt J N rule i ≤ 0) → a_told J N rule (n + k) = a_told J N rule n
  | 0, _ => rfl
  | k + 1, h => by
    rw [← Nat.add_assoc, a_told, a_tl, if_pos (h _ (by omega)), List.append_nil, a_told_skip k h]
theorem le00 : (0 : Int32) ≤ 0 := by decide
theorem a_amt_d {J N : Nat → Nat → Int32} {i : Nat} (h : m_nd J ≤ i) : a_amt J N 2 i ≤ 0 := by
  unfold a_amt; rw [if_pos rfl, if_neg (fun w => absurd w.1 (by omega))]; exact le00
theorem a_amt_s {J N : Nat → Nat → Int32} {i : Nat} (h : m_ns J ≤ i) : a_amt J N 8 i ≤ 0 := by
  unfold a_amt; rw [if_neg (by decide), if_pos rfl, if_neg (fun w => absurd w.1 (by omega))]; exact le00
theorem a_amt_r {J N : Nat → Nat → Int32} {rule i : Nat} (h2 : ¬ rule = 2) (h8 : ¬ rule = 8) (h : m_nr J ≤ i) : a_amt J N rule i ≤ 0 := by
  unfold a_amt; rw [if_neg h2, if_neg h8, if_neg (fun w => absurd w.1 (by omega))]; exact le00
theorem a_fl_2 {J N : Nat → Nat → Int32} (hms : MS J) : a_fl J N 3 = a_fl J N 2 ++ a_told J N 2 (m_nd J) := by
  have h := a_told_skip (J := J) (N := N) (rule := 2) (n := m_nd J) (40 - m_nd J) (fun i hi => a_amt_d hi)
  rw [show m_nd J + (40 - m_nd J) = a_num 2 by have := hms.2.1.2; show _ = 40; omega] at h
  rw [a_fl, h]
theorem a_fl_8 {J N : Nat → Nat → Int32} (hms : MS J) : a_fl J N 9 = a_fl J N 8 ++ a_told J N 8 (m_ns J) := by
  have h := a_told_skip (J := J) (N := N) (rule := 8) (n := m_ns J) (10 - m_ns J) (fun i hi => a_amt_s hi)
  rw [show m_ns J + (10 - m_ns J) = a_num 8 by have := hms.2.2.2.2; show _ = 10; omega] at h
  rw [a_fl, h]
theorem a_fl_r {J N : Nat → Nat → Int32} {rule : Nat} (hms : MS J) (h2 : ¬ rule = 2) (h8 : ¬ rule = 8) : a_fl J N (rule + 1) = a_fl J N rule ++ a_told J N rule (m_nr J) := by
  have h := a_told_skip (J := J) (N := N) (rule := rule) (n := m_nr J) (20 - m_nr J) (fun i hi => a_amt_r h2 h8 hi)
  rw [show m_nr J + (20 - m_nr J) = a_num rule by have := hms.1.2; unfold a_num; rw [if_neg h2, if_neg h8]; omega] at h
  rw [a_fl, h]
theorem SV.same {J J2 N N2 : Nat → Nat → Int32} (h : SV J N) (es : ES J J2 N N2) (hj : J2 22 35 = J 22 35) (hn : ∀ o, o = 47 ∨ o = 48 ∨ o = 49 ∨ o = 50 ∨ o = 52 → N2 o = N o) : SV J2 N2 := by
  obtain ⟨h1, h2, h3⟩ := h
  unfold SV RW
  rw [es.act, es.ll, es.lea, es.bb, es.deep, es.nr, hj, hn 47 (by omega), hn 48 (by omega), hn 49 (by omega), hn 50 (by omega), hn 52 (by omega)]
  exact ⟨h1, h2, h3⟩
/-- all faults are told -/
def FO (J J2 N N2 : Nat → Nat → Int32) : Prop := SE J J2 N N2 ∧ J2 22 0 = J 22 0 ∧ SV J2 N2 ∧ J2 22 33 = nI (a_fl J N 10).length ∧ FTL (N2 51) (a_fl J N 10)
theorem FO.qe {J J1 J2 N N1 N2 : Nat → Nat → Int32} {t : Int32} (h : QE J J1 N N1 t) (h2 : FO J1 J2 N1 N2) : QE J J2 N N2 t := ⟨h.1.trans h2.1, h2.2.1.trans h.2⟩
def a_faults (J N : Nat → Nat → Int32) : Nat := (a_fl J N 10).length
theorem ES.faults {J J2 N N2 : Nat → Nat → Int32} (h : ES J J2 N N2) : a_faults J2 N2 = a_faults J N := by unfold a_faults; rw [h.fl]

