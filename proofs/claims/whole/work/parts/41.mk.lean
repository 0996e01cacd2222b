/-! the reference: faults -/
abbrev zk_F3 : Type := List (Int32 × Int32 × Int32)
def FTL (F : Nat → Int32) (L : zk_F3) : Prop := ∀ i (h : i < L.length), F (3 * i) = L[i].1 ∧ F (3 * i + 1) = L[i].2.1 ∧ F (3 * i + 2) = L[i].2.2
theorem FTL.nil (F : Nat → Int32) : FTL F [] := fun i h => absurd h (Nat.not_lt_zero i)
theorem FTL.app {F : Nat → Int32} {L : zk_F3} {q w m : Int32} (h : FTL F L) : FTL (upd (upd (upd F (3 * L.length) q) (3 * L.length + 1) w) (3 * L.length + 2) m) (L ++ [(q, w, m)]) := by
  intro i hi
  rw [List.length_append, List.length_singleton] at hi
  by_cases e : i = L.length
  · subst e
    rw [List.getElem_append_right (Nat.le_refl _)]
    simp only [Nat.sub_self, List.getElem_cons_zero]
    refine ⟨?_, ?_, ?_⟩
    · rw [upd_ne _ _ (by omega), upd_ne _ _ (by omega), upd_self]
    · rw [upd_ne _ _ (by omega), upd_self]
    · rw [upd_self]
  · have hi2 : i < L.length := by omega
    rw [List.getElem_append_left hi2, upd_ne _ _ (by omega), upd_ne _ _ (by omega), upd_ne _ _ (by omega), upd_ne _ _ (by omega), upd_ne _ _ (by omega), upd_ne _ _ (by omega), upd_ne _ _ (by omega), upd_ne _ _ (by omega), upd_ne _ _ (by omega)]
    exact h i hi2
/-- by how much the i-th of its kind breaks a rule -/
def a_amt (J N : Nat → Nat → Int32) (rule i : Nat) : Int32 :=
  if rule = 2 then (if i < m_nd J ∧ ¬ N 30 i = -2 then a_load J N i - N 46 2 * N 34 i else 0)
  else if rule = 8 then (if i < m_ns J ∧ ¬ N 42 i = -2 then a_load J N (40 + i) - N 46 8 else 0)
  else (if i < m_nr J ∧ ¬ N 23 i = -2 then a_by J N rule i else 0)
def a_tl (J N : Nat → Nat → Int32) (rule i : Nat) : zk_F3 := if a_amt J N rule i ≤ 0 then [] else [(nI rule, nI i, a_amt J N rule i)]
def a_told (J N : Nat → Nat → Int32) (rule : Nat) : Nat → zk_F3
  | 0 => []
  | i + 1 => a_told J N rule i ++ a_tl J N rule i
def a_num (rule : Nat) : Nat := if rule = 2 then 40 else if rule = 8 then 10 else 20
def a_fl (J N : Nat → Nat → Int32) : Nat → zk_F3
  | 0 => []
  | r + 1 => a_fl J N r ++ a_told J N r (a_num r)
theorem ES.amt {J J2 N N2 : Nat → Nat → Int32} (h : ES J J2 N N2) : a_amt J2 N2 = a_amt J N := by
  funext rule i; unfold a_amt
  rw [h.nd, h.ns, h.nr, h.a6, h.by, h.n (o := 23) (by decide), h.n (o := 30) (by decide), h.n (o := 34) (by decide), h.n (o := 42) (by decide), h.n (o := 46) (by decide)]
theorem ES.told {J J2 N N2 : Nat → Nat → Int32} (h : ES J J2 N N2) (rule : Nat) : ∀ n, a_told J2 N2 rule n = a_told J N rule n
  | 0 => rfl
  | n + 1 => by rw [a_told, a_told, h.told rule n, a_tl, a_tl, h.amt]
theorem ES.fl {J J2 N N2 : Nat → Nat → Int32} (h : ES J J2 N N2) : ∀ n, a_fl J2 N2 n = a_fl J N n
  | 0 => rfl
  | n + 1 => by rw [a_fl, a_fl, h.fl n, h.told]
theorem a_told_len (J N : Nat → Nat → Int32) (rule : Nat) : ∀ n, (a_told J N rule n).length ≤ n
  | 0 => Nat.le_refl _
  | n + 1 => by
    have := a_told_len J N rule n
    have h2 : (a_tl J N rule n).length ≤ 1 := by unfold a_tl; split <;> simp
    rw [a_told, List.length_append]
    omega
theorem a_fl_len (J N : Nat → Nat → Int32) : ∀ n, (a_fl J N n).length ≤ 40 * n
  | 0 => Nat.le_refl _
  | n + 1 => by
    have := a_fl_len J N n
    have := a_told_len J N n (a_num n)
    have h2 : a_num n ≤ 40 := by unfold a_num; split <;> (try split) <;> omega
    rw [a_fl, List.length_append]
    omega
theorem a_told_skip {J N : Nat → Nat → Int32} {rule n : Nat} : ∀ k, (∀ i, n ≤ i → a_amt J N rule i ≤ 0) → a_told J N rule (n + k) = a_told J N rule n
  | 0, _ => rfl
  | k + 1, h => by
    rw [← Nat.add_assoc, a_told, a_tl, if_pos (h _ (by omega)), List.append_nil, a_told_skip k h]
theorem le00 : (0 : Int32) ≤ 0 := by decide
theorem a_amt_d {J N : Nat → Nat → Int32} {i : Nat} (h : m_nd J ≤ i) : a_amt J N 2 i ≤ 0 := by
  unfold a_amt; rw [if_pos rfl, if_neg (fun w => absurd w.1 (by omega))]; exact le00
theorem a_amt_s {J N : Nat → Nat → Int32} {i : Nat} (h : m_ns J ≤ i) : a_amt J N 8 i ≤ 0 := by
  unfold a_amt; rw [if_neg (by decide), if_pos rfl, if_neg (fun w => absurd w.1 (by omega))]; exact le00
theorem a_amt_r {J N : Nat → Nat → Int32} {rule i : Nat} (h2 : ¬ rule = 2) (h8 : ¬ rule = 8) (h : m_nr J ≤ i) : a_amt J N rule i ≤ 0 := by
  unfold a_amt; rw [if_neg h2, if_neg h8, if_neg (fun w => absurd w.1 (by omega))]; exact le00
theorem a_fl_2 {J N : Nat → Nat → Int32} (hms : MS J) : a_fl J N 3 = a_fl J N 2 ++ a_told J N 2 (m_nd J) := by
  have h := a_told_skip (J := J) (N := N) (rule := 2) (n := m_nd J) (40 - m_nd J) (fun i hi => a_amt_d hi)
  rw [show m_nd J + (40 - m_nd J) = a_num 2 by have := hms.2.1.2; show _ = 40; omega] at h
  rw [a_fl, h]
theorem a_fl_8 {J N : Nat → Nat → Int32} (hms : MS J) : a_fl J N 9 = a_fl J N 8 ++ a_told J N 8 (m_ns J) := by
  have h := a_told_skip (J := J) (N := N) (rule := 8) (n := m_ns J) (10 - m_ns J) (fun i hi => a_amt_s hi)
  rw [show m_ns J + (10 - m_ns J) = a_num 8 by have := hms.2.2.2.2; show _ = 10; omega] at h
  rw [a_fl, h]
theorem a_fl_r {J N : Nat → Nat → Int32} {rule : Nat} (hms : MS J) (h2 : ¬ rule = 2) (h8 : ¬ rule = 8) : a_fl J N (rule + 1) = a_fl J N rule ++ a_told J N rule (m_nr J) := by
  have h := a_told_skip (J := J) (N := N) (rule := rule) (n := m_nr J) (20 - m_nr J) (fun i hi => a_amt_r h2 h8 hi)
  rw [show m_nr J + (20 - m_nr J) = a_num rule by have := hms.1.2; unfold a_num; rw [if_neg h2, if_neg h8]; omega] at h
  rw [a_fl, h]
def sp_X11_tell (E : zk_E) : zk_Sp zk_S := fun av σ sz P PX => match av with
  | [.ref a, .int q, .int wh, .int much] => a = zk_ad E 22 ∧ (∃ n, n < 400 ∧ σ.1 22 33 = nI n) ∧ (much ≤ 0 → P none σ sz) ∧ (¬ much ≤ 0 → P none (zk_uj σ.1 22 33 (σ.1 22 33 + 1), zk_un σ.2.1 51 (upd (upd (upd (σ.2.1 51) (3 * (σ.1 22 33).toNatClampNeg) q) (3 * (σ.1 22 33).toNatClampNeg + 1) wh) (3 * (σ.1 22 33).toNatClampNeg + 2) much), σ.2.2) sz)
  | _ => False
theorem spe_X11_tell (E : zk_E) (a : Nat) (q : Int32) (wh : Int32) (much : Int32) (σ : zk_S) (sz : Nat) (P : zk_P zk_S) (PX : zk_X zk_S) : sp_X11_tell E [.ref a, .int q, .int wh, .int much] σ sz P PX = (a = zk_ad E 22 ∧ (∃ n, n < 400 ∧ σ.1 22 33 = nI n) ∧ (much ≤ 0 → P none σ sz) ∧ (¬ much ≤ 0 → P none (zk_uj σ.1 22 33 (σ.1 22 33 + 1), zk_un σ.2.1 51 (upd (upd (upd (σ.2.1 51) (3 * (σ.1 22 33).toNatClampNeg) q) (3 * (σ.1 22 33).toNatClampNeg + 1) wh) (3 * (σ.1 22 33).toNatClampNeg + 2) much), σ.2.2) sz)) := propext Iff.rfl
def C_X11_tell (E : zk_E) : zk_Cl zk_S := zk_lka []
theorem r_X11_tell (E : zk_E) (P : zk_P zk_S) (PX : zk_X zk_S) (K : Nat → zk_L → List Value → zk_W zk_S → Prop) : (∀ (n : Nat) (l0 l1 l2 : Option Value) (y3 : Int32) (r : List Value) (σ : zk_S) (sz k c : Nat), zk_run E (zk_VT E) M_X11_tell (C_X11_tell E) P PX K (n + 1) 0 [l0, l1, l2, some (.int y3)] r (σ, sz, k, c) = zk_run E (zk_VT E) M_X11_tell (C_X11_tell E) P PX K n 1 [l0, l1, l2, some (.int y3)] (.int y3 :: r) (σ, sz, k, c)) ∧
  (∀ (n : Nat) (l0 l1 l2 l3 : Option Value) (x : Int32) (r : List Value) (σ : zk_S) (sz k c : Nat), zk_run E (zk_VT E) M_X11_tell (C_X11_tell E) P PX K (n + 1) 1 [l0, l1, l2, l3] (.int x :: r) (σ, sz, k, c) = ((0 < x → zk_run E (zk_VT E) M_X11_tell (C_X11_tell E) P PX K n 5 [l0, l1, l2, l3] r (σ, sz, k, c)) ∧ (¬ (0 < x) → zk_run E (zk_VT E) M_X11_tell (C_X11_tell E) P PX K n 4 [l0, l1, l2, l3] r (σ, sz, k, c)))) ∧
  (∀ (n : Nat) (l0 l1 l2 l3 : Option Value)   (σ : zk_S) (sz k c : Nat), zk_run E (zk_VT E) M_X11_tell (C_X11_tell E) P PX K (n + 1) 4 [l0, l1, l2, l3] [] (σ, sz, k, c) = (P none σ sz ∧ k ≤ 0 ∧ c ≤ 0)) ∧
  (∀ (n : Nat) (l1 l2 l3 : Option Value) (y0 : Value) (r : List Value) (σ : zk_S) (sz k c : Nat), zk_run E (zk_VT E) M_X11_tell (C_X11_tell E) P PX K (n + 1) 5 [some y0, l1, l2, l3] r (σ, sz, k, c) = (zk_isr y0 ∧ zk_run E (zk_VT E) M_X11_tell (C_X11_tell E) P PX K n 6 [some y0, l1, l2, l3] (y0 :: r) (σ, sz, k, c))) ∧
  (∀ (n : Nat) (l0 l1 l2 l3 : Option Value) (a : Nat) (r : List Value) (σ : zk_S) (sz k c : Nat), zk_run E (zk_VT E) M_X11_tell (C_X11_tell E) P PX K (n + 1) 6 [l0, l1, l2, l3] (.ref a :: r) (σ, sz, k, c) = zk_fld (zk_view E σ a) [10] 34 (fun v => zk_run E (zk_VT E) M_X11_tell (C_X11_tell E) P PX K n 9 [l0, l1, l2, l3] (v :: r) (σ, sz, k, c))) ∧
  (∀ (n : Nat) (l0 l1 l2 l3 : Option Value)  (r : List Value) (σ : zk_S) (sz k c : Nat), zk_run E (zk_VT E) M_X11_tell (C_X11_tell E) P PX K (n + 1) 9 [l0, l1, l2, l3] r (σ, sz, k, c) = zk_run E (zk_VT E) M_X11_tell (C_X11_tell E) P PX K n 10 [l0, l1, l2, l3] (.int (3) :: r) (σ, sz, k, c)) ∧
  (∀ (n : Nat) (l1 l2 l3 : Option Value) (y0 : Value) (r : List Value) (σ : zk_S) (sz k c : Nat), zk_run E (zk_VT E) M_X11_tell (C_X11_tell E) P PX K (n + 1) 10 [some y0, l1, l2, l3] r (σ, sz, k, c) = (zk_isr y0 ∧ zk_run E (zk_VT E) M_X11_tell (C_X11_tell E) P PX K n 11 [some y0, l1, l2, l3] (y0 :: r) (σ, sz, k, c))) ∧
  (∀ (n : Nat) (l0 l1 l2 l3 : Option Value) (a : Nat) (r : List Value) (σ : zk_S) (sz k c : Nat), zk_run E (zk_VT E) M_X11_tell (C_X11_tell E) P PX K (n + 1) 11 [l0, l1, l2, l3] (.ref a :: r) (σ, sz, k, c) = zk_fld (zk_view E σ a) [10] 33 (fun v => zk_run E (zk_VT E) M_X11_tell (C_X11_tell E) P PX K n 14 [l0, l1, l2, l3] (v :: r) (σ, sz, k, c))) ∧
  (∀ (n : Nat) (l0 l1 l2 l3 : Option Value) (x y : Int32) (r : List Value) (σ : zk_S) (sz k c : Nat), zk_run E (zk_VT E) M_X11_tell (C_X11_tell E) P PX K (n + 1) 14 [l0, l1, l2, l3] (.int y :: .int x :: r) (σ, sz, k, c) = zk_run E (zk_VT E) M_X11_tell (C_X11_tell E) P PX K n 15 [l0, l1, l2, l3] (.int (x * y) :: r) (σ, sz, k, c)) ∧
  (∀ (n : Nat) (l0 l2 l3 : Option Value) (y1 : Int32) (r : List Value) (σ : zk_S) (sz k c : Nat), zk_run E (zk_VT E) M_X11_tell (C_X11_tell E) P PX K (n + 1) 15 [l0, some (.int y1), l2, l3] r (σ, sz, k, c) = zk_run E (zk_VT E) M_X11_tell (C_X11_tell E) P PX K n 16 [l0, some (.int y1), l2, l3] (.int y1 :: r) (σ, sz, k, c)) ∧
  (∀ (n : Nat) (l0 l1 l2 l3 : Option Value) (a : Nat) (i x : Int32) (r : List Value) (σ : zk_S) (sz k c : Nat), zk_run E (zk_VT E) M_X11_tell (C_X11_tell E) P PX K (n + 1) 16 [l0, l1, l2, l3] (.int x :: .int i :: .ref a :: r) (σ, sz, k, c) = zk_ist (zk_view E σ a) (zk_ar E 0) i x (fun e => zk_wrok E σ a e ∧ zk_run E (zk_VT E) M_X11_tell (C_X11_tell E) P PX K n 17 [l0, l1, l2, l3] r (zk_wr E σ a e, sz, k, c))) ∧
  (∀ (n : Nat) (l1 l2 l3 : Option Value) (y0 : Value) (r : List Value) (σ : zk_S) (sz k c : Nat), zk_run E (zk_VT E) M_X11_tell (C_X11_tell E) P PX K (n + 1) 17 [some y0, l1, l2, l3] r (σ, sz, k, c) = (zk_isr y0 ∧ zk_run E (zk_VT E) M_X11_tell (C_X11_tell E) P PX K n 18 [some y0, l1, l2, l3] (y0 :: r) (σ, sz, k, c))) ∧
  (∀ (n : Nat) (l0 l1 l2 l3 : Option Value) (a : Nat) (r : List Value) (σ : zk_S) (sz k c : Nat), zk_run E (zk_VT E) M_X11_tell (C_X11_tell E) P PX K (n + 1) 18 [l0, l1, l2, l3] (.ref a :: r) (σ, sz, k, c) = zk_fld (zk_view E σ a) [10] 34 (fun v => zk_run E (zk_VT E) M_X11_tell (C_X11_tell E) P PX K n 21 [l0, l1, l2, l3] (v :: r) (σ, sz, k, c))) ∧
  (∀ (n : Nat) (l0 l1 l2 l3 : Option Value)  (r : List Value) (σ : zk_S) (sz k c : Nat), zk_run E (zk_VT E) M_X11_tell (C_X11_tell E) P PX K (n + 1) 21 [l0, l1, l2, l3] r (σ, sz, k, c) = zk_run E (zk_VT E) M_X11_tell (C_X11_tell E) P PX K n 22 [l0, l1, l2, l3] (.int (3) :: r) (σ, sz, k, c)) ∧
  (∀ (n : Nat) (l1 l2 l3 : Option Value) (y0 : Value) (r : List Value) (σ : zk_S) (sz k c : Nat), zk_run E (zk_VT E) M_X11_tell (C_X11_tell E) P PX K (n + 1) 22 [some y0, l1, l2, l3] r (σ, sz, k, c) = (zk_isr y0 ∧ zk_run E (zk_VT E) M_X11_tell (C_X11_tell E) P PX K n 23 [some y0, l1, l2, l3] (y0 :: r) (σ, sz, k, c))) ∧
  (∀ (n : Nat) (l0 l1 l2 l3 : Option Value) (a : Nat) (r : List Value) (σ : zk_S) (sz k c : Nat), zk_run E (zk_VT E) M_X11_tell (C_X11_tell E) P PX K (n + 1) 23 [l0, l1, l2, l3] (.ref a :: r) (σ, sz, k, c) = zk_fld (zk_view E σ a) [10] 33 (fun v => zk_run E (zk_VT E) M_X11_tell (C_X11_tell E) P PX K n 26 [l0, l1, l2, l3] (v :: r) (σ, sz, k, c))) ∧
  (∀ (n : Nat) (l0 l1 l2 l3 : Option Value) (x y : Int32) (r : List Value) (σ : zk_S) (sz k c : Nat), zk_run E (zk_VT E) M_X11_tell (C_X11_tell E) P PX K (n + 1) 26 [l0, l1, l2, l3] (.int y :: .int x :: r) (σ, sz, k, c) = zk_run E (zk_VT E) M_X11_tell (C_X11_tell E) P PX K n 27 [l0, l1, l2, l3] (.int (x * y) :: r) (σ, sz, k, c)) ∧
  (∀ (n : Nat) (l0 l1 l2 l3 : Option Value)  (r : List Value) (σ : zk_S) (sz k c : Nat), zk_run E (zk_VT E) M_X11_tell (C_X11_tell E) P PX K (n + 1) 27 [l0, l1, l2, l3] r (σ, sz, k, c) = zk_run E (zk_VT E) M_X11_tell (C_X11_tell E) P PX K n 28 [l0, l1, l2, l3] (.int (1) :: r) (σ, sz, k, c)) ∧
  (∀ (n : Nat) (l0 l1 l2 l3 : Option Value) (x y : Int32) (r : List Value) (σ : zk_S) (sz k c : Nat), zk_run E (zk_VT E) M_X11_tell (C_X11_tell E) P PX K (n + 1) 28 [l0, l1, l2, l3] (.int y :: .int x :: r) (σ, sz, k, c) = zk_run E (zk_VT E) M_X11_tell (C_X11_tell E) P PX K n 29 [l0, l1, l2, l3] (.int (x + y) :: r) (σ, sz, k, c)) ∧
  (∀ (n : Nat) (l0 l1 l3 : Option Value) (y2 : Int32) (r : List Value) (σ : zk_S) (sz k c : Nat), zk_run E (zk_VT E) M_X11_tell (C_X11_tell E) P PX K (n + 1) 29 [l0, l1, some (.int y2), l3] r (σ, sz, k, c) = zk_run E (zk_VT E) M_X11_tell (C_X11_tell E) P PX K n 30 [l0, l1, some (.int y2), l3] (.int y2 :: r) (σ, sz, k, c)) ∧
  (∀ (n : Nat) (l0 l1 l2 l3 : Option Value) (a : Nat) (i x : Int32) (r : List Value) (σ : zk_S) (sz k c : Nat), zk_run E (zk_VT E) M_X11_tell (C_X11_tell E) P PX K (n + 1) 30 [l0, l1, l2, l3] (.int x :: .int i :: .ref a :: r) (σ, sz, k, c) = zk_ist (zk_view E σ a) (zk_ar E 0) i x (fun e => zk_wrok E σ a e ∧ zk_run E (zk_VT E) M_X11_tell (C_X11_tell E) P PX K n 31 [l0, l1, l2, l3] r (zk_wr E σ a e, sz, k, c))) ∧
  (∀ (n : Nat) (l1 l2 l3 : Option Value) (y0 : Value) (r : List Value) (σ : zk_S) (sz k c : Nat), zk_run E (zk_VT E) M_X11_tell (C_X11_tell E) P PX K (n + 1) 31 [some y0, l1, l2, l3] r (σ, sz, k, c) = (zk_isr y0 ∧ zk_run E (zk_VT E) M_X11_tell (C_X11_tell E) P PX K n 32 [some y0, l1, l2, l3] (y0 :: r) (σ, sz, k, c))) ∧
  (∀ (n : Nat) (l0 l1 l2 l3 : Option Value) (a : Nat) (r : List Value) (σ : zk_S) (sz k c : Nat), zk_run E (zk_VT E) M_X11_tell (C_X11_tell E) P PX K (n + 1) 32 [l0, l1, l2, l3] (.ref a :: r) (σ, sz, k, c) = zk_fld (zk_view E σ a) [10] 34 (fun v => zk_run E (zk_VT E) M_X11_tell (C_X11_tell E) P PX K n 35 [l0, l1, l2, l3] (v :: r) (σ, sz, k, c))) ∧
  (∀ (n : Nat) (l0 l1 l2 l3 : Option Value)  (r : List Value) (σ : zk_S) (sz k c : Nat), zk_run E (zk_VT E) M_X11_tell (C_X11_tell E) P PX K (n + 1) 35 [l0, l1, l2, l3] r (σ, sz, k, c) = zk_run E (zk_VT E) M_X11_tell (C_X11_tell E) P PX K n 36 [l0, l1, l2, l3] (.int (3) :: r) (σ, sz, k, c)) ∧
  (∀ (n : Nat) (l1 l2 l3 : Option Value) (y0 : Value) (r : List Value) (σ : zk_S) (sz k c : Nat), zk_run E (zk_VT E) M_X11_tell (C_X11_tell E) P PX K (n + 1) 36 [some y0, l1, l2, l3] r (σ, sz, k, c) = (zk_isr y0 ∧ zk_run E (zk_VT E) M_X11_tell (C_X11_tell E) P PX K n 37 [some y0, l1, l2, l3] (y0 :: r) (σ, sz, k, c))) ∧
  (∀ (n : Nat) (l0 l1 l2 l3 : Option Value) (a : Nat) (r : List Value) (σ : zk_S) (sz k c : Nat), zk_run E (zk_VT E) M_X11_tell (C_X11_tell E) P PX K (n + 1) 37 [l0, l1, l2, l3] (.ref a :: r) (σ, sz, k, c) = zk_fld (zk_view E σ a) [10] 33 (fun v => zk_run E (zk_VT E) M_X11_tell (C_X11_tell E) P PX K n 40 [l0, l1, l2, l3] (v :: r) (σ, sz, k, c))) ∧
  (∀ (n : Nat) (l0 l1 l2 l3 : Option Value) (x y : Int32) (r : List Value) (σ : zk_S) (sz k c : Nat), zk_run E (zk_VT E) M_X11_tell (C_X11_tell E) P PX K (n + 1) 40 [l0, l1, l2, l3] (.int y :: .int x :: r) (σ, sz, k, c) = zk_run E (zk_VT E) M_X11_tell (C_X11_tell E) P PX K n 41 [l0, l1, l2, l3] (.int (x * y) :: r) (σ, sz, k, c)) ∧
  (∀ (n : Nat) (l0 l1 l2 l3 : Option Value)  (r : List Value) (σ : zk_S) (sz k c : Nat), zk_run E (zk_VT E) M_X11_tell (C_X11_tell E) P PX K (n + 1) 41 [l0, l1, l2, l3] r (σ, sz, k, c) = zk_run E (zk_VT E) M_X11_tell (C_X11_tell E) P PX K n 42 [l0, l1, l2, l3] (.int (2) :: r) (σ, sz, k, c)) ∧
  (∀ (n : Nat) (l0 l1 l2 l3 : Option Value) (x y : Int32) (r : List Value) (σ : zk_S) (sz k c : Nat), zk_run E (zk_VT E) M_X11_tell (C_X11_tell E) P PX K (n + 1) 42 [l0, l1, l2, l3] (.int y :: .int x :: r) (σ, sz, k, c) = zk_run E (zk_VT E) M_X11_tell (C_X11_tell E) P PX K n 43 [l0, l1, l2, l3] (.int (x + y) :: r) (σ, sz, k, c)) ∧
  (∀ (n : Nat) (l0 l1 l2 : Option Value) (y3 : Int32) (r : List Value) (σ : zk_S) (sz k c : Nat), zk_run E (zk_VT E) M_X11_tell (C_X11_tell E) P PX K (n + 1) 43 [l0, l1, l2, some (.int y3)] r (σ, sz, k, c) = zk_run E (zk_VT E) M_X11_tell (C_X11_tell E) P PX K n 44 [l0, l1, l2, some (.int y3)] (.int y3 :: r) (σ, sz, k, c)) ∧
  (∀ (n : Nat) (l0 l1 l2 l3 : Option Value) (a : Nat) (i x : Int32) (r : List Value) (σ : zk_S) (sz k c : Nat), zk_run E (zk_VT E) M_X11_tell (C_X11_tell E) P PX K (n + 1) 44 [l0, l1, l2, l3] (.int x :: .int i :: .ref a :: r) (σ, sz, k, c) = zk_ist (zk_view E σ a) (zk_ar E 0) i x (fun e => zk_wrok E σ a e ∧ zk_run E (zk_VT E) M_X11_tell (C_X11_tell E) P PX K n 45 [l0, l1, l2, l3] r (zk_wr E σ a e, sz, k, c))) ∧
  (∀ (n : Nat) (l1 l2 l3 : Option Value) (y0 : Value) (r : List Value) (σ : zk_S) (sz k c : Nat), zk_run E (zk_VT E) M_X11_tell (C_X11_tell E) P PX K (n + 1) 45 [some y0, l1, l2, l3] r (σ, sz, k, c) = (zk_isr y0 ∧ zk_run E (zk_VT E) M_X11_tell (C_X11_tell E) P PX K n 46 [some y0, l1, l2, l3] (y0 :: r) (σ, sz, k, c))) ∧
  (∀ (n : Nat) (l0 l1 l2 l3 : Option Value) (v : Value) (r : List Value) (σ : zk_S) (sz k c : Nat), zk_run E (zk_VT E) M_X11_tell (C_X11_tell E) P PX K (n + 1) 46 [l0, l1, l2, l3] (v :: r) (σ, sz, k, c) = (zk_c1 v ∧ zk_run E (zk_VT E) M_X11_tell (C_X11_tell E) P PX K n 47 [l0, l1, l2, l3] (v :: v :: r) (σ, sz, k, c))) ∧
  (∀ (n : Nat) (l0 l1 l2 l3 : Option Value) (a : Nat) (r : List Value) (σ : zk_S) (sz k c : Nat), zk_run E (zk_VT E) M_X11_tell (C_X11_tell E) P PX K (n + 1) 47 [l0, l1, l2, l3] (.ref a :: r) (σ, sz, k, c) = zk_fld (zk_view E σ a) [10] 33 (fun v => zk_run E (zk_VT E) M_X11_tell (C_X11_tell E) P PX K n 50 [l0, l1, l2, l3] (v :: r) (σ, sz, k, c))) ∧
  (∀ (n : Nat) (l0 l1 l2 l3 : Option Value)  (r : List Value) (σ : zk_S) (sz k c : Nat), zk_run E (zk_VT E) M_X11_tell (C_X11_tell E) P PX K (n + 1) 50 [l0, l1, l2, l3] r (σ, sz, k, c) = zk_run E (zk_VT E) M_X11_tell (C_X11_tell E) P PX K n 51 [l0, l1, l2, l3] (.int (1) :: r) (σ, sz, k, c)) ∧
  (∀ (n : Nat) (l0 l1 l2 l3 : Option Value) (x y : Int32) (r : List Value) (σ : zk_S) (sz k c : Nat), zk_run E (zk_VT E) M_X11_tell (C_X11_tell E) P PX K (n + 1) 51 [l0, l1, l2, l3] (.int y :: .int x :: r) (σ, sz, k, c) = zk_run E (zk_VT E) M_X11_tell (C_X11_tell E) P PX K n 52 [l0, l1, l2, l3] (.int (x + y) :: r) (σ, sz, k, c)) ∧
  (∀ (n : Nat) (l0 l1 l2 l3 : Option Value) (a : Nat) (v : Value) (r : List Value) (σ : zk_S) (sz k c : Nat), zk_run E (zk_VT E) M_X11_tell (C_X11_tell E) P PX K (n + 1) 52 [l0, l1, l2, l3] (v :: .ref a :: r) (σ, sz, k, c) = zk_put (zk_view E σ a) [10] 33 0 v (zk_pfok E σ a 33 v ∧ zk_run E (zk_VT E) M_X11_tell (C_X11_tell E) P PX K n 55 [l0, l1, l2, l3] r (zk_pf E σ a 33 v, sz, k, c))) ∧
  (∀ (n : Nat) (l0 l1 l2 l3 : Option Value)   (σ : zk_S) (sz k c : Nat), zk_run E (zk_VT E) M_X11_tell (C_X11_tell E) P PX K (n + 1) 55 [l0, l1, l2, l3] [] (σ, sz, k, c) = (P none σ sz ∧ k ≤ 0 ∧ c ≤ 0)) ∧
  (∀ (n : Nat) (l0 l1 l2 l3 : Option Value) (r : List Value) (w : zk_W zk_S), zk_go E (zk_VT E) M_X11_tell (C_X11_tell E) P PX K n 0 [l0, l1, l2, l3] r w = zk_run E (zk_VT E) M_X11_tell (C_X11_tell E) P PX K (n + 1) 0 [l0, l1, l2, l3] r w) := ⟨by intros; rfl, by intros; rfl, by intros; rfl, by intros; rfl, by intros; rfl, by intros; rfl, by intros; rfl, by intros; rfl, by intros; rfl, by intros; rfl, by intros; rfl, by intros; rfl, by intros; rfl, by intros; rfl, by intros; rfl, by intros; rfl, by intros; rfl, by intros; rfl, by intros; rfl, by intros; rfl, by intros; rfl, by intros; rfl, by intros; rfl, by intros; rfl, by intros; rfl, by intros; rfl, by intros; rfl, by intros; rfl, by intros; rfl, by intros; rfl, by intros; rfl, by intros; rfl, by intros; rfl, by intros; rfl, by intros; rfl, by intros; rfl, by intros; rfl, by intros; rfl, by intros; rfl⟩
theorem vc_X11_tell (E : zk_E) : zk_VC E (zk_VT E) M_X11_tell (C_X11_tell E) 4 (sp_X11_tell E) := by
  intro av σ sz P PX h
  obtain ⟨J, N, Q, O, U⟩ := σ
  unfold sp_X11_tell at h
  split at h
  case h_2 => exact h.elim
  rename_i a0 q wh much
  obtain ⟨rfl, h⟩ := h
  refine ⟨Nat.le_of_ble_eq_true rfl, fun G hG => ?_⟩
  change G 0 [some (.ref (zk_ad E 22)), some (.int q), some (.int wh), some (.int much)] [] ((J, N, Q, O, U), sz, 0, 0)
  try dsimp only at h
  obtain ⟨⟨n, hn, hJ⟩, h1, h2⟩ := h
  by_cases c : much ≤ 0
  · have c1 : ¬ 0 < much := Int32.not_lt.mpr c
    (refine hG 900 _ _ _ _ ?_; simp only [r_X11_tell, zk_kl_none, zk_kl_int, zk_kl_ref, zk_kl_null, zk_kl_long, zk_kl_rf, zk_isr_ref, zk_isr_null, zk_isr_rf9, zk_c1_int, zk_c1_ref, zk_c1_null, zk_c1_rf, zk_psh_some, zk_psh_none, zk_nok_int, zk_nok_bool0, zk_nok_bool1, zk_nok_b, zk_fok_0, zk_fok_1, zk_fok_2, zk_fok_n, zk_fok_rf, zb_f, zb_p, zb_i, zb_a, zb_s, zk_nth_0, zk_nth_s, zk_fld_o, zk_put_o, zk_rv_eq, zk_ri_eq, zk_is_o, List.mem_cons, List.not_mem_nil, or_false, false_or, or_true, true_or, and_true, true_and, not_false_iff, not_true_eq_false, true_implies, false_implies, imp_self, implies_true, forall_const, zk_lit, zk_uj_ap, zk_un_ap, zk_un_un, zk_uj_uj, Nat.reduceEqDiff, eq_self, zk_bq, Bool.true_or, Bool.false_or, Nat.le_refl, Nat.zero_add, Nat.add_zero, Nat.reduceAdd, Nat.reduceLeDiff, Nat.le_zero_eq, and_self, and_false, false_and, ite_true, ite_false, Nat.zero_le, List.length_cons, List.length_nil, Option.some.injEq, forall_eq', reduceCtorEq, c1])
    exact h1 c
  · have c1 : 0 < much := Int32.not_le.mp c
    have h3 := h2 c
    rw [hJ, n_cl (by omega)] at h3
    have e0 : (3 : Int32) * nI n = nI (3 * n) := n_mul 3 n
    have e2 : nI (3 * n) + 2 = nI (3 * n + 2) := n_add _ 2
    have e1 : nI (3 * n) + 1 = nI (3 * n + 1) := n_add _ 1
    have i0 : vp_in (nI (3 * n)) 1200 := n_in (by omega) (by decide)
    have i1 : vp_in (nI (3 * n + 1)) 1200 := n_in (by omega) (by decide)
    have i2 : vp_in (nI (3 * n + 2)) 1200 := n_in (by omega) (by decide)
    have l0 : (nI (3 * n)).toNatClampNeg = 3 * n := n_cl (by omega)
    have l1 : (nI (3 * n + 1)).toNatClampNeg = 3 * n + 1 := n_cl (by omega)
    have l2 : (nI (3 * n + 2)).toNatClampNeg = 3 * n + 2 := n_cl (by omega)
    (refine hG 900 _ _ _ _ ?_; simp only [r_X11_tell, zk_kl_none, zk_kl_int, zk_kl_ref, zk_kl_null, zk_kl_long, zk_kl_rf, zk_isr_ref, zk_isr_null, zk_isr_rf9, zk_c1_int, zk_c1_ref, zk_c1_null, zk_c1_rf, zk_psh_some, zk_psh_none, zk_nok_int, zk_nok_bool0, zk_nok_bool1, zk_nok_b, zk_fok_0, zk_fok_1, zk_fok_2, zk_fok_n, zk_fok_rf, zb_f, zb_p, zb_i, zb_a, zb_s, zk_nth_0, zk_nth_s, zk_fld_o, zk_put_o, zk_rv_eq, zk_ri_eq, zk_is_o, List.mem_cons, List.not_mem_nil, or_false, false_or, or_true, true_or, and_true, true_and, not_false_iff, not_true_eq_false, true_implies, false_implies, imp_self, implies_true, forall_const, zk_lit, zk_uj_ap, zk_un_ap, zk_un_un, zk_uj_uj, Nat.reduceEqDiff, eq_self, zk_bq, Bool.true_or, Bool.false_or, Nat.le_refl, Nat.zero_add, Nat.add_zero, Nat.reduceAdd, Nat.reduceLeDiff, Nat.le_zero_eq, and_self, and_false, false_and, ite_true, ite_false, Nat.zero_le, List.length_cons, List.length_nil, Option.some.injEq, forall_eq', reduceCtorEq, c1, hJ, e0, e1, e2, i0, i1, i2, l0, l1, l2, zk_un_un])
    exact h3
theorem ct_X11_tell {l : Launch} (hl : l.stackTraces = false) (E : zk_E) : zk_C l E (zk_VT E) yX11_tell cX11_tell 4 (none) rm_X11_tell (sp_X11_tell E) := by
  refine zk_meth (M := M_X11_tell) (C := C_X11_tell E) hl (by decide +kernel) rfl (fun _ _ => rfl) (zk_VT_ok E) MO_X11_tell TO_X11_tell THo_X11_tell ?_ (vc_X11_tell E)
  exact fun p e s m args below meth c X pc n mc ms sp2 h => absurd (zk_lka_mem h) List.not_mem_nil
theorem SV.same {J J2 N N2 : Nat → Nat → Int32} (h : SV J N) (es : ES J J2 N N2) (hj : J2 22 35 = J 22 35) (hn : ∀ o, o = 47 ∨ o = 48 ∨ o = 49 ∨ o = 50 ∨ o = 52 → N2 o = N o) : SV J2 N2 := by
  obtain ⟨h1, h2, h3⟩ := h
  unfold SV RW
  rw [es.act, es.ll, es.lea, es.bb, es.deep, es.nr, hj, hn 47 (by omega), hn 48 (by omega), hn 49 (by omega), hn 50 (by omega), hn 52 (by omega)]
  exact ⟨h1, h2, h3⟩
/-- all faults are told -/
def FO (J J2 N N2 : Nat → Nat → Int32) : Prop := SE J J2 N N2 ∧ J2 22 0 = J 22 0 ∧ SV J2 N2 ∧ J2 22 33 = nI (a_fl J N 10).length ∧ FTL (N2 51) (a_fl J N 10)
def sp_X11_tellFaults (E : zk_E) : zk_Sp zk_S := fun av σ sz P PX => match av with
  | [.ref a] => a = zk_ad E 22 ∧ MI σ.1 σ.2.1 ∧ ∀ J2 N2, FO σ.1 J2 σ.2.1 N2 → P none (J2, N2, σ.2.2) sz
  | _ => False
theorem spe_X11_tellFaults (E : zk_E) (a : Nat) (σ : zk_S) (sz : Nat) (P : zk_P zk_S) (PX : zk_X zk_S) : sp_X11_tellFaults E [.ref a] σ sz P PX = (a = zk_ad E 22 ∧ MI σ.1 σ.2.1 ∧ ∀ J2 N2, FO σ.1 J2 σ.2.1 N2 → P none (J2, N2, σ.2.2) sz) := propext Iff.rfl
def C_X11_tellFaults (E : zk_E) : zk_Cl zk_S := zk_lka [(1, 1, 0, 0, zk_rv (zk_VT E) (fun ci => Nat.beq ci 10) (sp_X11_solve E)), (48, 2, 0, 0, zk_rv (zk_VT E) (fun ci => Nat.beq ci 10) (sp_X11_loadNow E)), (65, 4, 0, 0, zk_rv (zk_VT E) (fun ci => Nat.beq ci 10) (sp_X11_tell E)), (110, 2, 0, 0, zk_rv (zk_VT E) (fun ci => Nat.beq ci 10) (sp_X11_loadNow E)), (121, 4, 0, 0, zk_rv (zk_VT E) (fun ci => Nat.beq ci 10) (sp_X11_tell E)), (168, 3, 0, 0, zk_rv (zk_VT E) (fun ci => Nat.beq ci 10) (sp_X11_byRoom E)), (171, 4, 0, 0, zk_rv (zk_VT E) (fun ci => Nat.beq ci 10) (sp_X11_tell E))]
theorem r_X11_tellFaults (E : zk_E) (P : zk_P zk_S) (PX : zk_X zk_S) (K : Nat → zk_L → List Value → zk_W zk_S → Prop) : (∀ (n : Nat) (l1 l2 : Option Value) (y0 : Value) (r : List Value) (σ : zk_S) (sz k c : Nat), zk_run E (zk_VT E) M_X11_tellFaults (C_X11_tellFaults E) P PX K (n + 1) 0 [some y0, l1, l2] r (σ, sz, k, c) = (zk_isr y0 ∧ zk_run E (zk_VT E) M_X11_tellFaults (C_X11_tellFaults E) P PX K n 1 [some y0, l1, l2] (y0 :: r) (σ, sz, k, c))) ∧
  (∀ (n : Nat) (l0 l1 l2 : Option Value) (v0 : Value)  (σ : zk_S) (sz k c : Nat), zk_run E (zk_VT E) M_X11_tellFaults (C_X11_tellFaults E) P PX K (n + 1) 1 [l0, l1, l2] [v0] (σ, sz, k, c) = (k + 0 ≤ 0 ∧ c + 0 ≤ 0 ∧ (zk_rv (zk_VT E) (fun ci => Nat.beq ci 10) (sp_X11_solve E)) [v0] σ sz (fun v s2 z2 => zk_run E (zk_VT E) M_X11_tellFaults (C_X11_tellFaults E) P PX K n 4 [l0, l1, l2] (zk_psh v []) (s2, z2, k + 0, c + 0)) (fun X s2 z2 => PX X s2 z2))) ∧
  (∀ (n : Nat) (l1 l2 : Option Value) (y0 : Value) (r : List Value) (σ : zk_S) (sz k c : Nat), zk_run E (zk_VT E) M_X11_tellFaults (C_X11_tellFaults E) P PX K (n + 1) 4 [some y0, l1, l2] r (σ, sz, k, c) = (zk_isr y0 ∧ zk_run E (zk_VT E) M_X11_tellFaults (C_X11_tellFaults E) P PX K n 5 [some y0, l1, l2] (y0 :: r) (σ, sz, k, c))) ∧
  (∀ (n : Nat) (l0 l1 l2 : Option Value)  (r : List Value) (σ : zk_S) (sz k c : Nat), zk_run E (zk_VT E) M_X11_tellFaults (C_X11_tellFaults E) P PX K (n + 1) 5 [l0, l1, l2] r (σ, sz, k, c) = zk_run E (zk_VT E) M_X11_tellFaults (C_X11_tellFaults E) P PX K n 6 [l0, l1, l2] (.int (0) :: r) (σ, sz, k, c)) ∧
  (∀ (n : Nat) (l0 l1 l2 : Option Value) (a : Nat) (v : Value) (r : List Value) (σ : zk_S) (sz k c : Nat), zk_run E (zk_VT E) M_X11_tellFaults (C_X11_tellFaults E) P PX K (n + 1) 6 [l0, l1, l2] (v :: .ref a :: r) (σ, sz, k, c) = zk_put (zk_view E σ a) [10] 33 0 v (zk_pfok E σ a 33 v ∧ zk_run E (zk_VT E) M_X11_tellFaults (C_X11_tellFaults E) P PX K n 9 [l0, l1, l2] r (zk_pf E σ a 33 v, sz, k, c))) ∧
  (∀ (n : Nat) (l0 l1 l2 : Option Value)  (r : List Value) (σ : zk_S) (sz k c : Nat), zk_run E (zk_VT E) M_X11_tellFaults (C_X11_tellFaults E) P PX K (n + 1) 9 [l0, l1, l2] r (σ, sz, k, c) = zk_run E (zk_VT E) M_X11_tellFaults (C_X11_tellFaults E) P PX K n 10 [l0, l1, l2] (.int (0) :: r) (σ, sz, k, c)) ∧
  (∀ (n : Nat) (l0 l1 l2 : Option Value) (x : Int32) (r : List Value) (σ : zk_S) (sz k c : Nat), zk_run E (zk_VT E) M_X11_tellFaults (C_X11_tellFaults E) P PX K (n + 1) 10 [l0, l1, l2] (.int x :: r) (σ, sz, k, c) = zk_run E (zk_VT E) M_X11_tellFaults (C_X11_tellFaults E) P PX K n 11 [zk_kl l0, some (.int x), l2] r (σ, sz, k, c)) ∧
  (∀ (n : Nat) (l0 l1 l2 : Option Value)  (r : List Value) (σ : zk_S) (sz k c : Nat), zk_run E (zk_VT E) M_X11_tellFaults (C_X11_tellFaults E) P PX K (n + 1) 11 [l0, l1, l2] r (σ, sz, k, c) = K 11 [l0, l1, l2] r (σ, sz, k, c)) ∧
  (∀ (n : Nat) (l0 l1 l2 : Option Value)  (r : List Value) (σ : zk_S) (sz k c : Nat), zk_run E (zk_VT E) M_X11_tellFaults (C_X11_tellFaults E) P PX K (n + 1) 12 [l0, l1, l2] r (σ, sz, k, c) = zk_run E (zk_VT E) M_X11_tellFaults (C_X11_tellFaults E) P PX K n 14 [l0, l1, l2] (.int (10) :: r) (σ, sz, k, c)) ∧
  (∀ (n : Nat) (l0 l1 l2 : Option Value) (x y : Int32) (r : List Value) (σ : zk_S) (sz k c : Nat), zk_run E (zk_VT E) M_X11_tellFaults (C_X11_tellFaults E) P PX K (n + 1) 14 [l0, l1, l2] (.int y :: .int x :: r) (σ, sz, k, c) = ((y ≤ x → zk_run E (zk_VT E) M_X11_tellFaults (C_X11_tellFaults E) P PX K n 186 [l0, l1, l2] r (σ, sz, k, c)) ∧ (¬ (y ≤ x) → zk_run E (zk_VT E) M_X11_tellFaults (C_X11_tellFaults E) P PX K n 17 [l0, l1, l2] r (σ, sz, k, c)))) ∧
  (∀ (n : Nat) (l0 l1 l2 : Option Value)  (r : List Value) (σ : zk_S) (sz k c : Nat), zk_run E (zk_VT E) M_X11_tellFaults (C_X11_tellFaults E) P PX K (n + 1) 17 [l0, l1, l2] r (σ, sz, k, c) = zk_run E (zk_VT E) M_X11_tellFaults (C_X11_tellFaults E) P PX K n 18 [l0, l1, l2] (.int (0) :: r) (σ, sz, k, c)) ∧
  (∀ (n : Nat) (l0 l1 l2 : Option Value) (x : Int32) (r : List Value) (σ : zk_S) (sz k c : Nat), zk_run E (zk_VT E) M_X11_tellFaults (C_X11_tellFaults E) P PX K (n + 1) 18 [l0, l1, l2] (.int x :: r) (σ, sz, k, c) = zk_run E (zk_VT E) M_X11_tellFaults (C_X11_tellFaults E) P PX K n 19 [l0, zk_kl l1, some (.int x)] r (σ, sz, k, c)) ∧
  (∀ (n : Nat) (l0 l1 l2 : Option Value)  (r : List Value) (σ : zk_S) (sz k c : Nat), zk_run E (zk_VT E) M_X11_tellFaults (C_X11_tellFaults E) P PX K (n + 1) 19 [l0, l1, l2] r (σ, sz, k, c) = K 19 [l0, l1, l2] r (σ, sz, k, c)) ∧
  (∀ (n : Nat) (l1 l2 : Option Value) (y0 : Value) (r : List Value) (σ : zk_S) (sz k c : Nat), zk_run E (zk_VT E) M_X11_tellFaults (C_X11_tellFaults E) P PX K (n + 1) 20 [some y0, l1, l2] r (σ, sz, k, c) = (zk_isr y0 ∧ zk_run E (zk_VT E) M_X11_tellFaults (C_X11_tellFaults E) P PX K n 21 [some y0, l1, l2] (y0 :: r) (σ, sz, k, c))) ∧
  (∀ (n : Nat) (l0 l1 l2 : Option Value) (a : Nat) (r : List Value) (σ : zk_S) (sz k c : Nat), zk_run E (zk_VT E) M_X11_tellFaults (C_X11_tellFaults E) P PX K (n + 1) 21 [l0, l1, l2] (.ref a :: r) (σ, sz, k, c) = zk_fld (zk_view E σ a) [10] 9 (fun v => zk_run E (zk_VT E) M_X11_tellFaults (C_X11_tellFaults E) P PX K n 24 [l0, l1, l2] (v :: r) (σ, sz, k, c))) ∧
  (∀ (n : Nat) (l0 l1 l2 : Option Value) (x y : Int32) (r : List Value) (σ : zk_S) (sz k c : Nat), zk_run E (zk_VT E) M_X11_tellFaults (C_X11_tellFaults E) P PX K (n + 1) 24 [l0, l1, l2] (.int y :: .int x :: r) (σ, sz, k, c) = ((y ≤ x → zk_run E (zk_VT E) M_X11_tellFaults (C_X11_tellFaults E) P PX K n 74 [l0, l1, l2] r (σ, sz, k, c)) ∧ (¬ (y ≤ x) → zk_run E (zk_VT E) M_X11_tellFaults (C_X11_tellFaults E) P PX K n 27 [l0, l1, l2] r (σ, sz, k, c)))) ∧
  (∀ (n : Nat) (l0 l2 : Option Value) (y1 : Int32) (r : List Value) (σ : zk_S) (sz k c : Nat), zk_run E (zk_VT E) M_X11_tellFaults (C_X11_tellFaults E) P PX K (n + 1) 27 [l0, some (.int y1), l2] r (σ, sz, k, c) = zk_run E (zk_VT E) M_X11_tellFaults (C_X11_tellFaults E) P PX K n 28 [l0, some (.int y1), l2] (.int y1 :: r) (σ, sz, k, c)) ∧
  (∀ (n : Nat) (l0 l1 l2 : Option Value)  (r : List Value) (σ : zk_S) (sz k c : Nat), zk_run E (zk_VT E) M_X11_tellFaults (C_X11_tellFaults E) P PX K (n + 1) 28 [l0, l1, l2] r (σ, sz, k, c) = zk_run E (zk_VT E) M_X11_tellFaults (C_X11_tellFaults E) P PX K n 29 [l0, l1, l2] (.int (2) :: r) (σ, sz, k, c)) ∧
  (∀ (n : Nat) (l0 l1 l2 : Option Value) (x y : Int32) (r : List Value) (σ : zk_S) (sz k c : Nat), zk_run E (zk_VT E) M_X11_tellFaults (C_X11_tellFaults E) P PX K (n + 1) 29 [l0, l1, l2] (.int y :: .int x :: r) (σ, sz, k, c) = ((¬ x = y → zk_run E (zk_VT E) M_X11_tellFaults (C_X11_tellFaults E) P PX K n 74 [l0, l1, l2] r (σ, sz, k, c)) ∧ (¬ (¬ x = y) → zk_run E (zk_VT E) M_X11_tellFaults (C_X11_tellFaults E) P PX K n 32 [l0, l1, l2] r (σ, sz, k, c)))) ∧
  (∀ (n : Nat) (l1 l2 : Option Value) (y0 : Value) (r : List Value) (σ : zk_S) (sz k c : Nat), zk_run E (zk_VT E) M_X11_tellFaults (C_X11_tellFaults E) P PX K (n + 1) 32 [some y0, l1, l2] r (σ, sz, k, c) = (zk_isr y0 ∧ zk_run E (zk_VT E) M_X11_tellFaults (C_X11_tellFaults E) P PX K n 33 [some y0, l1, l2] (y0 :: r) (σ, sz, k, c))) ∧
  (∀ (n : Nat) (l0 l1 l2 : Option Value) (a : Nat) (r : List Value) (σ : zk_S) (sz k c : Nat), zk_run E (zk_VT E) M_X11_tellFaults (C_X11_tellFaults E) P PX K (n + 1) 33 [l0, l1, l2] (.ref a :: r) (σ, sz, k, c) = zk_fld (zk_view E σ a) [10] 10 (fun v => zk_run E (zk_VT E) M_X11_tellFaults (C_X11_tellFaults E) P PX K n 36 [l0, l1, l2] (v :: r) (σ, sz, k, c))) ∧
  (∀ (n : Nat) (l0 l1 : Option Value) (y2 : Int32) (r : List Value) (σ : zk_S) (sz k c : Nat), zk_run E (zk_VT E) M_X11_tellFaults (C_X11_tellFaults E) P PX K (n + 1) 36 [l0, l1, some (.int y2)] r (σ, sz, k, c) = zk_run E (zk_VT E) M_X11_tellFaults (C_X11_tellFaults E) P PX K n 37 [l0, l1, some (.int y2)] (.int y2 :: r) (σ, sz, k, c)) ∧
  (∀ (n : Nat) (l0 l1 l2 : Option Value) (a : Nat) (i : Int32) (r : List Value) (σ : zk_S) (sz k c : Nat), zk_run E (zk_VT E) M_X11_tellFaults (C_X11_tellFaults E) P PX K (n + 1) 37 [l0, l1, l2] (.int i :: .ref a :: r) (σ, sz, k, c) = zk_ild (zk_view E σ a) (zk_ar E 0) i (fun x => zk_run E (zk_VT E) M_X11_tellFaults (C_X11_tellFaults E) P PX K n 38 [l0, l1, l2] (.int x :: r) (σ, sz, k, c))) ∧
  (∀ (n : Nat) (l0 l1 l2 : Option Value)  (r : List Value) (σ : zk_S) (sz k c : Nat), zk_run E (zk_VT E) M_X11_tellFaults (C_X11_tellFaults E) P PX K (n + 1) 38 [l0, l1, l2] r (σ, sz, k, c) = zk_run E (zk_VT E) M_X11_tellFaults (C_X11_tellFaults E) P PX K n 40 [l0, l1, l2] (.int ((-2)) :: r) (σ, sz, k, c)) ∧
  (∀ (n : Nat) (l0 l1 l2 : Option Value) (x y : Int32) (r : List Value) (σ : zk_S) (sz k c : Nat), zk_run E (zk_VT E) M_X11_tellFaults (C_X11_tellFaults E) P PX K (n + 1) 40 [l0, l1, l2] (.int y :: .int x :: r) (σ, sz, k, c) = ((x = y → zk_run E (zk_VT E) M_X11_tellFaults (C_X11_tellFaults E) P PX K n 68 [l0, l1, l2] r (σ, sz, k, c)) ∧ (¬ (x = y) → zk_run E (zk_VT E) M_X11_tellFaults (C_X11_tellFaults E) P PX K n 43 [l0, l1, l2] r (σ, sz, k, c)))) ∧
  (∀ (n : Nat) (l1 l2 : Option Value) (y0 : Value) (r : List Value) (σ : zk_S) (sz k c : Nat), zk_run E (zk_VT E) M_X11_tellFaults (C_X11_tellFaults E) P PX K (n + 1) 43 [some y0, l1, l2] r (σ, sz, k, c) = (zk_isr y0 ∧ zk_run E (zk_VT E) M_X11_tellFaults (C_X11_tellFaults E) P PX K n 44 [some y0, l1, l2] (y0 :: r) (σ, sz, k, c))) ∧
  (∀ (n : Nat) (l0 l1 l2 : Option Value)  (r : List Value) (σ : zk_S) (sz k c : Nat), zk_run E (zk_VT E) M_X11_tellFaults (C_X11_tellFaults E) P PX K (n + 1) 44 [l0, l1, l2] r (σ, sz, k, c) = zk_run E (zk_VT E) M_X11_tellFaults (C_X11_tellFaults E) P PX K n 45 [l0, l1, l2] (.int (2) :: r) (σ, sz, k, c)) ∧
  (∀ (n : Nat) (l0 l1 : Option Value) (y2 : Int32) (r : List Value) (σ : zk_S) (sz k c : Nat), zk_run E (zk_VT E) M_X11_tellFaults (C_X11_tellFaults E) P PX K (n + 1) 45 [l0, l1, some (.int y2)] r (σ, sz, k, c) = zk_run E (zk_VT E) M_X11_tellFaults (C_X11_tellFaults E) P PX K n 46 [l0, l1, some (.int y2)] (.int y2 :: r) (σ, sz, k, c)) ∧
  (∀ (n : Nat) (l1 l2 : Option Value) (y0 : Value) (r : List Value) (σ : zk_S) (sz k c : Nat), zk_run E (zk_VT E) M_X11_tellFaults (C_X11_tellFaults E) P PX K (n + 1) 46 [some y0, l1, l2] r (σ, sz, k, c) = (zk_isr y0 ∧ zk_run E (zk_VT E) M_X11_tellFaults (C_X11_tellFaults E) P PX K n 47 [some y0, l1, l2] (y0 :: r) (σ, sz, k, c))) ∧
  (∀ (n : Nat) (l0 l1 : Option Value) (y2 : Int32) (r : List Value) (σ : zk_S) (sz k c : Nat), zk_run E (zk_VT E) M_X11_tellFaults (C_X11_tellFaults E) P PX K (n + 1) 47 [l0, l1, some (.int y2)] r (σ, sz, k, c) = zk_run E (zk_VT E) M_X11_tellFaults (C_X11_tellFaults E) P PX K n 48 [l0, l1, some (.int y2)] (.int y2 :: r) (σ, sz, k, c)) ∧
  (∀ (n : Nat) (l0 l1 l2 : Option Value) (v0 : Value) (v1 : Value) (v2 : Value) (v3 : Value) (v4 : Value)  (σ : zk_S) (sz k c : Nat), zk_run E (zk_VT E) M_X11_tellFaults (C_X11_tellFaults E) P PX K (n + 1) 48 [l0, l1, l2] [v0, v1, v2, v3, v4] (σ, sz, k, c) = (k + 0 ≤ 0 ∧ c + 0 ≤ 0 ∧ (zk_rv (zk_VT E) (fun ci => Nat.beq ci 10) (sp_X11_loadNow E)) [v1, v0] σ sz (fun v s2 z2 => zk_run E (zk_VT E) M_X11_tellFaults (C_X11_tellFaults E) P PX K n 51 [l0, l1, l2] (zk_psh v [v2, v3, v4]) (s2, z2, k + 0, c + 0)) (fun X s2 z2 => PX X s2 z2))) ∧
  (∀ (n : Nat) (l1 l2 : Option Value) (y0 : Value) (r : List Value) (σ : zk_S) (sz k c : Nat), zk_run E (zk_VT E) M_X11_tellFaults (C_X11_tellFaults E) P PX K (n + 1) 51 [some y0, l1, l2] r (σ, sz, k, c) = (zk_isr y0 ∧ zk_run E (zk_VT E) M_X11_tellFaults (C_X11_tellFaults E) P PX K n 52 [some y0, l1, l2] (y0 :: r) (σ, sz, k, c))) ∧
  (∀ (n : Nat) (l0 l1 l2 : Option Value) (a : Nat) (r : List Value) (σ : zk_S) (sz k c : Nat), zk_run E (zk_VT E) M_X11_tellFaults (C_X11_tellFaults E) P PX K (n + 1) 52 [l0, l1, l2] (.ref a :: r) (σ, sz, k, c) = zk_fld (zk_view E σ a) [10] 28 (fun v => zk_run E (zk_VT E) M_X11_tellFaults (C_X11_tellFaults E) P PX K n 55 [l0, l1, l2] (v :: r) (σ, sz, k, c))) ∧
  (∀ (n : Nat) (l0 l1 l2 : Option Value)  (r : List Value) (σ : zk_S) (sz k c : Nat), zk_run E (zk_VT E) M_X11_tellFaults (C_X11_tellFaults E) P PX K (n + 1) 55 [l0, l1, l2] r (σ, sz, k, c) = zk_run E (zk_VT E) M_X11_tellFaults (C_X11_tellFaults E) P PX K n 56 [l0, l1, l2] (.int (2) :: r) (σ, sz, k, c)) ∧
  (∀ (n : Nat) (l0 l1 l2 : Option Value) (a : Nat) (i : Int32) (r : List Value) (σ : zk_S) (sz k c : Nat), zk_run E (zk_VT E) M_X11_tellFaults (C_X11_tellFaults E) P PX K (n + 1) 56 [l0, l1, l2] (.int i :: .ref a :: r) (σ, sz, k, c) = zk_ild (zk_view E σ a) (zk_ar E 0) i (fun x => zk_run E (zk_VT E) M_X11_tellFaults (C_X11_tellFaults E) P PX K n 57 [l0, l1, l2] (.int x :: r) (σ, sz, k, c))) ∧
  (∀ (n : Nat) (l1 l2 : Option Value) (y0 : Value) (r : List Value) (σ : zk_S) (sz k c : Nat), zk_run E (zk_VT E) M_X11_tellFaults (C_X11_tellFaults E) P PX K (n + 1) 57 [some y0, l1, l2] r (σ, sz, k, c) = (zk_isr y0 ∧ zk_run E (zk_VT E) M_X11_tellFaults (C_X11_tellFaults E) P PX K n 58 [some y0, l1, l2] (y0 :: r) (σ, sz, k, c))) ∧
  (∀ (n : Nat) (l0 l1 l2 : Option Value) (a : Nat) (r : List Value) (σ : zk_S) (sz k c : Nat), zk_run E (zk_VT E) M_X11_tellFaults (C_X11_tellFaults E) P PX K (n + 1) 58 [l0, l1, l2] (.ref a :: r) (σ, sz, k, c) = zk_fld (zk_view E σ a) [10] 14 (fun v => zk_run E (zk_VT E) M_X11_tellFaults (C_X11_tellFaults E) P PX K n 61 [l0, l1, l2] (v :: r) (σ, sz, k, c))) ∧
  (∀ (n : Nat) (l0 l1 : Option Value) (y2 : Int32) (r : List Value) (σ : zk_S) (sz k c : Nat), zk_run E (zk_VT E) M_X11_tellFaults (C_X11_tellFaults E) P PX K (n + 1) 61 [l0, l1, some (.int y2)] r (σ, sz, k, c) = zk_run E (zk_VT E) M_X11_tellFaults (C_X11_tellFaults E) P PX K n 62 [l0, l1, some (.int y2)] (.int y2 :: r) (σ, sz, k, c)) ∧
  (∀ (n : Nat) (l0 l1 l2 : Option Value) (a : Nat) (i : Int32) (r : List Value) (σ : zk_S) (sz k c : Nat), zk_run E (zk_VT E) M_X11_tellFaults (C_X11_tellFaults E) P PX K (n + 1) 62 [l0, l1, l2] (.int i :: .ref a :: r) (σ, sz, k, c) = zk_ild (zk_view E σ a) (zk_ar E 0) i (fun x => zk_run E (zk_VT E) M_X11_tellFaults (C_X11_tellFaults E) P PX K n 63 [l0, l1, l2] (.int x :: r) (σ, sz, k, c))) ∧
  (∀ (n : Nat) (l0 l1 l2 : Option Value) (x y : Int32) (r : List Value) (σ : zk_S) (sz k c : Nat), zk_run E (zk_VT E) M_X11_tellFaults (C_X11_tellFaults E) P PX K (n + 1) 63 [l0, l1, l2] (.int y :: .int x :: r) (σ, sz, k, c) = zk_run E (zk_VT E) M_X11_tellFaults (C_X11_tellFaults E) P PX K n 64 [l0, l1, l2] (.int (x * y) :: r) (σ, sz, k, c)) := ⟨by intros; rfl, by intros; rfl, by intros; rfl, by intros; rfl, by intros; rfl, by intros; rfl, by intros; rfl, by intros; rfl, by intros; rfl, by intros; rfl, by intros; rfl, by intros; rfl, by intros; rfl, by intros; rfl, by intros; rfl, by intros; rfl, by intros; rfl, by intros; rfl, by intros; rfl, by intros; rfl, by intros; rfl, by intros; rfl, by intros; rfl, by intros; rfl, by intros; rfl, by intros; rfl, by intros; rfl, by intros; rfl, by intros; rfl, by intros; rfl, by intros; rfl, by intros; rfl, by intros; rfl, by intros; rfl, by intros; rfl, by intros; rfl, by intros; rfl, by intros; rfl, by intros; rfl, by intros; rfl⟩
theorem r_X11_tellFaults_1 (E : zk_E) (P : zk_P zk_S) (PX : zk_X zk_S) (K : Nat → zk_L → List Value → zk_W zk_S → Prop) : (∀ (n : Nat) (l0 l1 l2 : Option Value) (x y : Int32) (r : List Value) (σ : zk_S) (sz k c : Nat), zk_run E (zk_VT E) M_X11_tellFaults (C_X11_tellFaults E) P PX K (n + 1) 64 [l0, l1, l2] (.int y :: .int x :: r) (σ, sz, k, c) = zk_run E (zk_VT E) M_X11_tellFaults (C_X11_tellFaults E) P PX K n 65 [l0, l1, l2] (.int (x - y) :: r) (σ, sz, k, c)) ∧
  (∀ (n : Nat) (l0 l1 l2 : Option Value) (v0 : Value) (v1 : Value) (v2 : Value) (v3 : Value)  (σ : zk_S) (sz k c : Nat), zk_run E (zk_VT E) M_X11_tellFaults (C_X11_tellFaults E) P PX K (n + 1) 65 [l0, l1, l2] [v0, v1, v2, v3] (σ, sz, k, c) = (k + 0 ≤ 0 ∧ c + 0 ≤ 0 ∧ (zk_rv (zk_VT E) (fun ci => Nat.beq ci 10) (sp_X11_tell E)) [v3, v2, v1, v0] σ sz (fun v s2 z2 => zk_run E (zk_VT E) M_X11_tellFaults (C_X11_tellFaults E) P PX K n 68 [l0, l1, l2] (zk_psh v []) (s2, z2, k + 0, c + 0)) (fun X s2 z2 => PX X s2 z2))) ∧
  (∀ (n : Nat) (l0 l1 : Option Value) (y2 : Int32) (r : List Value) (σ : zk_S) (sz k c : Nat), zk_run E (zk_VT E) M_X11_tellFaults (C_X11_tellFaults E) P PX K (n + 1) 68 [l0, l1, some (.int y2)] r (σ, sz, k, c) = zk_run E (zk_VT E) M_X11_tellFaults (C_X11_tellFaults E) P PX K n 71 [l0, zk_kl l1, some (.int (y2 + 1))] r (σ, sz, k, c)) ∧
  (∀ (n : Nat) (l0 l1 l2 : Option Value)  (r : List Value) (σ : zk_S) (sz k c : Nat), zk_run E (zk_VT E) M_X11_tellFaults (C_X11_tellFaults E) P PX K (n + 1) 71 [l0, l1, l2] r (σ, sz, k, c) = zk_run E (zk_VT E) M_X11_tellFaults (C_X11_tellFaults E) P PX K n 19 [l0, l1, l2] r (σ, sz, k, c)) ∧
  (∀ (n : Nat) (l0 l1 l2 : Option Value)  (r : List Value) (σ : zk_S) (sz k c : Nat), zk_run E (zk_VT E) M_X11_tellFaults (C_X11_tellFaults E) P PX K (n + 1) 74 [l0, l1, l2] r (σ, sz, k, c) = zk_run E (zk_VT E) M_X11_tellFaults (C_X11_tellFaults E) P PX K n 75 [l0, l1, l2] (.int (0) :: r) (σ, sz, k, c)) ∧
  (∀ (n : Nat) (l0 l1 l2 : Option Value) (x : Int32) (r : List Value) (σ : zk_S) (sz k c : Nat), zk_run E (zk_VT E) M_X11_tellFaults (C_X11_tellFaults E) P PX K (n + 1) 75 [l0, l1, l2] (.int x :: r) (σ, sz, k, c) = zk_run E (zk_VT E) M_X11_tellFaults (C_X11_tellFaults E) P PX K n 76 [l0, zk_kl l1, some (.int x)] r (σ, sz, k, c)) ∧
  (∀ (n : Nat) (l0 l1 l2 : Option Value)  (r : List Value) (σ : zk_S) (sz k c : Nat), zk_run E (zk_VT E) M_X11_tellFaults (C_X11_tellFaults E) P PX K (n + 1) 76 [l0, l1, l2] r (σ, sz, k, c) = K 76 [l0, l1, l2] r (σ, sz, k, c)) ∧
  (∀ (n : Nat) (l1 l2 : Option Value) (y0 : Value) (r : List Value) (σ : zk_S) (sz k c : Nat), zk_run E (zk_VT E) M_X11_tellFaults (C_X11_tellFaults E) P PX K (n + 1) 77 [some y0, l1, l2] r (σ, sz, k, c) = (zk_isr y0 ∧ zk_run E (zk_VT E) M_X11_tellFaults (C_X11_tellFaults E) P PX K n 78 [some y0, l1, l2] (y0 :: r) (σ, sz, k, c))) ∧
  (∀ (n : Nat) (l0 l1 l2 : Option Value) (a : Nat) (r : List Value) (σ : zk_S) (sz k c : Nat), zk_run E (zk_VT E) M_X11_tellFaults (C_X11_tellFaults E) P PX K (n + 1) 78 [l0, l1, l2] (.ref a :: r) (σ, sz, k, c) = zk_fld (zk_view E σ a) [10] 23 (fun v => zk_run E (zk_VT E) M_X11_tellFaults (C_X11_tellFaults E) P PX K n 81 [l0, l1, l2] (v :: r) (σ, sz, k, c))) ∧
  (∀ (n : Nat) (l0 l1 l2 : Option Value) (x y : Int32) (r : List Value) (σ : zk_S) (sz k c : Nat), zk_run E (zk_VT E) M_X11_tellFaults (C_X11_tellFaults E) P PX K (n + 1) 81 [l0, l1, l2] (.int y :: .int x :: r) (σ, sz, k, c) = ((y ≤ x → zk_run E (zk_VT E) M_X11_tellFaults (C_X11_tellFaults E) P PX K n 130 [l0, l1, l2] r (σ, sz, k, c)) ∧ (¬ (y ≤ x) → zk_run E (zk_VT E) M_X11_tellFaults (C_X11_tellFaults E) P PX K n 84 [l0, l1, l2] r (σ, sz, k, c)))) ∧
  (∀ (n : Nat) (l0 l2 : Option Value) (y1 : Int32) (r : List Value) (σ : zk_S) (sz k c : Nat), zk_run E (zk_VT E) M_X11_tellFaults (C_X11_tellFaults E) P PX K (n + 1) 84 [l0, some (.int y1), l2] r (σ, sz, k, c) = zk_run E (zk_VT E) M_X11_tellFaults (C_X11_tellFaults E) P PX K n 85 [l0, some (.int y1), l2] (.int y1 :: r) (σ, sz, k, c)) ∧
  (∀ (n : Nat) (l0 l1 l2 : Option Value)  (r : List Value) (σ : zk_S) (sz k c : Nat), zk_run E (zk_VT E) M_X11_tellFaults (C_X11_tellFaults E) P PX K (n + 1) 85 [l0, l1, l2] r (σ, sz, k, c) = zk_run E (zk_VT E) M_X11_tellFaults (C_X11_tellFaults E) P PX K n 87 [l0, l1, l2] (.int (8) :: r) (σ, sz, k, c)) ∧
  (∀ (n : Nat) (l0 l1 l2 : Option Value) (x y : Int32) (r : List Value) (σ : zk_S) (sz k c : Nat), zk_run E (zk_VT E) M_X11_tellFaults (C_X11_tellFaults E) P PX K (n + 1) 87 [l0, l1, l2] (.int y :: .int x :: r) (σ, sz, k, c) = ((¬ x = y → zk_run E (zk_VT E) M_X11_tellFaults (C_X11_tellFaults E) P PX K n 130 [l0, l1, l2] r (σ, sz, k, c)) ∧ (¬ (¬ x = y) → zk_run E (zk_VT E) M_X11_tellFaults (C_X11_tellFaults E) P PX K n 90 [l0, l1, l2] r (σ, sz, k, c)))) ∧
  (∀ (n : Nat) (l1 l2 : Option Value) (y0 : Value) (r : List Value) (σ : zk_S) (sz k c : Nat), zk_run E (zk_VT E) M_X11_tellFaults (C_X11_tellFaults E) P PX K (n + 1) 90 [some y0, l1, l2] r (σ, sz, k, c) = (zk_isr y0 ∧ zk_run E (zk_VT E) M_X11_tellFaults (C_X11_tellFaults E) P PX K n 91 [some y0, l1, l2] (y0 :: r) (σ, sz, k, c))) ∧
  (∀ (n : Nat) (l0 l1 l2 : Option Value) (a : Nat) (r : List Value) (σ : zk_S) (sz k c : Nat), zk_run E (zk_VT E) M_X11_tellFaults (C_X11_tellFaults E) P PX K (n + 1) 91 [l0, l1, l2] (.ref a :: r) (σ, sz, k, c) = zk_fld (zk_view E σ a) [10] 24 (fun v => zk_run E (zk_VT E) M_X11_tellFaults (C_X11_tellFaults E) P PX K n 94 [l0, l1, l2] (v :: r) (σ, sz, k, c))) ∧
  (∀ (n : Nat) (l0 l1 : Option Value) (y2 : Int32) (r : List Value) (σ : zk_S) (sz k c : Nat), zk_run E (zk_VT E) M_X11_tellFaults (C_X11_tellFaults E) P PX K (n + 1) 94 [l0, l1, some (.int y2)] r (σ, sz, k, c) = zk_run E (zk_VT E) M_X11_tellFaults (C_X11_tellFaults E) P PX K n 95 [l0, l1, some (.int y2)] (.int y2 :: r) (σ, sz, k, c)) ∧
  (∀ (n : Nat) (l0 l1 l2 : Option Value) (a : Nat) (i : Int32) (r : List Value) (σ : zk_S) (sz k c : Nat), zk_run E (zk_VT E) M_X11_tellFaults (C_X11_tellFaults E) P PX K (n + 1) 95 [l0, l1, l2] (.int i :: .ref a :: r) (σ, sz, k, c) = zk_ild (zk_view E σ a) (zk_ar E 0) i (fun x => zk_run E (zk_VT E) M_X11_tellFaults (C_X11_tellFaults E) P PX K n 96 [l0, l1, l2] (.int x :: r) (σ, sz, k, c))) ∧
  (∀ (n : Nat) (l0 l1 l2 : Option Value)  (r : List Value) (σ : zk_S) (sz k c : Nat), zk_run E (zk_VT E) M_X11_tellFaults (C_X11_tellFaults E) P PX K (n + 1) 96 [l0, l1, l2] r (σ, sz, k, c) = zk_run E (zk_VT E) M_X11_tellFaults (C_X11_tellFaults E) P PX K n 98 [l0, l1, l2] (.int ((-2)) :: r) (σ, sz, k, c)) ∧
  (∀ (n : Nat) (l0 l1 l2 : Option Value) (x y : Int32) (r : List Value) (σ : zk_S) (sz k c : Nat), zk_run E (zk_VT E) M_X11_tellFaults (C_X11_tellFaults E) P PX K (n + 1) 98 [l0, l1, l2] (.int y :: .int x :: r) (σ, sz, k, c) = ((x = y → zk_run E (zk_VT E) M_X11_tellFaults (C_X11_tellFaults E) P PX K n 124 [l0, l1, l2] r (σ, sz, k, c)) ∧ (¬ (x = y) → zk_run E (zk_VT E) M_X11_tellFaults (C_X11_tellFaults E) P PX K n 101 [l0, l1, l2] r (σ, sz, k, c)))) ∧
  (∀ (n : Nat) (l1 l2 : Option Value) (y0 : Value) (r : List Value) (σ : zk_S) (sz k c : Nat), zk_run E (zk_VT E) M_X11_tellFaults (C_X11_tellFaults E) P PX K (n + 1) 101 [some y0, l1, l2] r (σ, sz, k, c) = (zk_isr y0 ∧ zk_run E (zk_VT E) M_X11_tellFaults (C_X11_tellFaults E) P PX K n 102 [some y0, l1, l2] (y0 :: r) (σ, sz, k, c))) ∧
  (∀ (n : Nat) (l0 l1 l2 : Option Value)  (r : List Value) (σ : zk_S) (sz k c : Nat), zk_run E (zk_VT E) M_X11_tellFaults (C_X11_tellFaults E) P PX K (n + 1) 102 [l0, l1, l2] r (σ, sz, k, c) = zk_run E (zk_VT E) M_X11_tellFaults (C_X11_tellFaults E) P PX K n 104 [l0, l1, l2] (.int (8) :: r) (σ, sz, k, c)) ∧
  (∀ (n : Nat) (l0 l1 : Option Value) (y2 : Int32) (r : List Value) (σ : zk_S) (sz k c : Nat), zk_run E (zk_VT E) M_X11_tellFaults (C_X11_tellFaults E) P PX K (n + 1) 104 [l0, l1, some (.int y2)] r (σ, sz, k, c) = zk_run E (zk_VT E) M_X11_tellFaults (C_X11_tellFaults E) P PX K n 105 [l0, l1, some (.int y2)] (.int y2 :: r) (σ, sz, k, c)) ∧
  (∀ (n : Nat) (l1 l2 : Option Value) (y0 : Value) (r : List Value) (σ : zk_S) (sz k c : Nat), zk_run E (zk_VT E) M_X11_tellFaults (C_X11_tellFaults E) P PX K (n + 1) 105 [some y0, l1, l2] r (σ, sz, k, c) = (zk_isr y0 ∧ zk_run E (zk_VT E) M_X11_tellFaults (C_X11_tellFaults E) P PX K n 106 [some y0, l1, l2] (y0 :: r) (σ, sz, k, c))) ∧
  (∀ (n : Nat) (l0 l1 l2 : Option Value)  (r : List Value) (σ : zk_S) (sz k c : Nat), zk_run E (zk_VT E) M_X11_tellFaults (C_X11_tellFaults E) P PX K (n + 1) 106 [l0, l1, l2] r (σ, sz, k, c) = zk_run E (zk_VT E) M_X11_tellFaults (C_X11_tellFaults E) P PX K n 108 [l0, l1, l2] (.int (40) :: r) (σ, sz, k, c)) ∧
  (∀ (n : Nat) (l0 l1 : Option Value) (y2 : Int32) (r : List Value) (σ : zk_S) (sz k c : Nat), zk_run E (zk_VT E) M_X11_tellFaults (C_X11_tellFaults E) P PX K (n + 1) 108 [l0, l1, some (.int y2)] r (σ, sz, k, c) = zk_run E (zk_VT E) M_X11_tellFaults (C_X11_tellFaults E) P PX K n 109 [l0, l1, some (.int y2)] (.int y2 :: r) (σ, sz, k, c)) ∧
  (∀ (n : Nat) (l0 l1 l2 : Option Value) (x y : Int32) (r : List Value) (σ : zk_S) (sz k c : Nat), zk_run E (zk_VT E) M_X11_tellFaults (C_X11_tellFaults E) P PX K (n + 1) 109 [l0, l1, l2] (.int y :: .int x :: r) (σ, sz, k, c) = zk_run E (zk_VT E) M_X11_tellFaults (C_X11_tellFaults E) P PX K n 110 [l0, l1, l2] (.int (x + y) :: r) (σ, sz, k, c)) ∧
  (∀ (n : Nat) (l0 l1 l2 : Option Value) (v0 : Value) (v1 : Value) (v2 : Value) (v3 : Value) (v4 : Value)  (σ : zk_S) (sz k c : Nat), zk_run E (zk_VT E) M_X11_tellFaults (C_X11_tellFaults E) P PX K (n + 1) 110 [l0, l1, l2] [v0, v1, v2, v3, v4] (σ, sz, k, c) = (k + 0 ≤ 0 ∧ c + 0 ≤ 0 ∧ (zk_rv (zk_VT E) (fun ci => Nat.beq ci 10) (sp_X11_loadNow E)) [v1, v0] σ sz (fun v s2 z2 => zk_run E (zk_VT E) M_X11_tellFaults (C_X11_tellFaults E) P PX K n 113 [l0, l1, l2] (zk_psh v [v2, v3, v4]) (s2, z2, k + 0, c + 0)) (fun X s2 z2 => PX X s2 z2))) ∧
  (∀ (n : Nat) (l1 l2 : Option Value) (y0 : Value) (r : List Value) (σ : zk_S) (sz k c : Nat), zk_run E (zk_VT E) M_X11_tellFaults (C_X11_tellFaults E) P PX K (n + 1) 113 [some y0, l1, l2] r (σ, sz, k, c) = (zk_isr y0 ∧ zk_run E (zk_VT E) M_X11_tellFaults (C_X11_tellFaults E) P PX K n 114 [some y0, l1, l2] (y0 :: r) (σ, sz, k, c))) ∧
  (∀ (n : Nat) (l0 l1 l2 : Option Value) (a : Nat) (r : List Value) (σ : zk_S) (sz k c : Nat), zk_run E (zk_VT E) M_X11_tellFaults (C_X11_tellFaults E) P PX K (n + 1) 114 [l0, l1, l2] (.ref a :: r) (σ, sz, k, c) = zk_fld (zk_view E σ a) [10] 28 (fun v => zk_run E (zk_VT E) M_X11_tellFaults (C_X11_tellFaults E) P PX K n 117 [l0, l1, l2] (v :: r) (σ, sz, k, c))) ∧
  (∀ (n : Nat) (l0 l1 l2 : Option Value)  (r : List Value) (σ : zk_S) (sz k c : Nat), zk_run E (zk_VT E) M_X11_tellFaults (C_X11_tellFaults E) P PX K (n + 1) 117 [l0, l1, l2] r (σ, sz, k, c) = zk_run E (zk_VT E) M_X11_tellFaults (C_X11_tellFaults E) P PX K n 119 [l0, l1, l2] (.int (8) :: r) (σ, sz, k, c)) ∧
  (∀ (n : Nat) (l0 l1 l2 : Option Value) (a : Nat) (i : Int32) (r : List Value) (σ : zk_S) (sz k c : Nat), zk_run E (zk_VT E) M_X11_tellFaults (C_X11_tellFaults E) P PX K (n + 1) 119 [l0, l1, l2] (.int i :: .ref a :: r) (σ, sz, k, c) = zk_ild (zk_view E σ a) (zk_ar E 0) i (fun x => zk_run E (zk_VT E) M_X11_tellFaults (C_X11_tellFaults E) P PX K n 120 [l0, l1, l2] (.int x :: r) (σ, sz, k, c))) ∧
  (∀ (n : Nat) (l0 l1 l2 : Option Value) (x y : Int32) (r : List Value) (σ : zk_S) (sz k c : Nat), zk_run E (zk_VT E) M_X11_tellFaults (C_X11_tellFaults E) P PX K (n + 1) 120 [l0, l1, l2] (.int y :: .int x :: r) (σ, sz, k, c) = zk_run E (zk_VT E) M_X11_tellFaults (C_X11_tellFaults E) P PX K n 121 [l0, l1, l2] (.int (x - y) :: r) (σ, sz, k, c)) ∧
  (∀ (n : Nat) (l0 l1 l2 : Option Value) (v0 : Value) (v1 : Value) (v2 : Value) (v3 : Value)  (σ : zk_S) (sz k c : Nat), zk_run E (zk_VT E) M_X11_tellFaults (C_X11_tellFaults E) P PX K (n + 1) 121 [l0, l1, l2] [v0, v1, v2, v3] (σ, sz, k, c) = (k + 0 ≤ 0 ∧ c + 0 ≤ 0 ∧ (zk_rv (zk_VT E) (fun ci => Nat.beq ci 10) (sp_X11_tell E)) [v3, v2, v1, v0] σ sz (fun v s2 z2 => zk_run E (zk_VT E) M_X11_tellFaults (C_X11_tellFaults E) P PX K n 124 [l0, l1, l2] (zk_psh v []) (s2, z2, k + 0, c + 0)) (fun X s2 z2 => PX X s2 z2))) ∧
  (∀ (n : Nat) (l0 l1 : Option Value) (y2 : Int32) (r : List Value) (σ : zk_S) (sz k c : Nat), zk_run E (zk_VT E) M_X11_tellFaults (C_X11_tellFaults E) P PX K (n + 1) 124 [l0, l1, some (.int y2)] r (σ, sz, k, c) = zk_run E (zk_VT E) M_X11_tellFaults (C_X11_tellFaults E) P PX K n 127 [l0, zk_kl l1, some (.int (y2 + 1))] r (σ, sz, k, c)) ∧
  (∀ (n : Nat) (l0 l1 l2 : Option Value)  (r : List Value) (σ : zk_S) (sz k c : Nat), zk_run E (zk_VT E) M_X11_tellFaults (C_X11_tellFaults E) P PX K (n + 1) 127 [l0, l1, l2] r (σ, sz, k, c) = zk_run E (zk_VT E) M_X11_tellFaults (C_X11_tellFaults E) P PX K n 76 [l0, l1, l2] r (σ, sz, k, c)) ∧
  (∀ (n : Nat) (l0 l1 l2 : Option Value)  (r : List Value) (σ : zk_S) (sz k c : Nat), zk_run E (zk_VT E) M_X11_tellFaults (C_X11_tellFaults E) P PX K (n + 1) 130 [l0, l1, l2] r (σ, sz, k, c) = zk_run E (zk_VT E) M_X11_tellFaults (C_X11_tellFaults E) P PX K n 131 [l0, l1, l2] (.int (0) :: r) (σ, sz, k, c)) ∧
  (∀ (n : Nat) (l0 l1 l2 : Option Value) (x : Int32) (r : List Value) (σ : zk_S) (sz k c : Nat), zk_run E (zk_VT E) M_X11_tellFaults (C_X11_tellFaults E) P PX K (n + 1) 131 [l0, l1, l2] (.int x :: r) (σ, sz, k, c) = zk_run E (zk_VT E) M_X11_tellFaults (C_X11_tellFaults E) P PX K n 132 [l0, zk_kl l1, some (.int x)] r (σ, sz, k, c)) ∧
  (∀ (n : Nat) (l0 l1 l2 : Option Value)  (r : List Value) (σ : zk_S) (sz k c : Nat), zk_run E (zk_VT E) M_X11_tellFaults (C_X11_tellFaults E) P PX K (n + 1) 132 [l0, l1, l2] r (σ, sz, k, c) = K 132 [l0, l1, l2] r (σ, sz, k, c)) ∧
  (∀ (n : Nat) (l1 l2 : Option Value) (y0 : Value) (r : List Value) (σ : zk_S) (sz k c : Nat), zk_run E (zk_VT E) M_X11_tellFaults (C_X11_tellFaults E) P PX K (n + 1) 133 [some y0, l1, l2] r (σ, sz, k, c) = (zk_isr y0 ∧ zk_run E (zk_VT E) M_X11_tellFaults (C_X11_tellFaults E) P PX K n 134 [some y0, l1, l2] (y0 :: r) (σ, sz, k, c))) ∧
  (∀ (n : Nat) (l0 l1 l2 : Option Value) (a : Nat) (r : List Value) (σ : zk_S) (sz k c : Nat), zk_run E (zk_VT E) M_X11_tellFaults (C_X11_tellFaults E) P PX K (n + 1) 134 [l0, l1, l2] (.ref a :: r) (σ, sz, k, c) = zk_fld (zk_view E σ a) [10] 1 (fun v => zk_run E (zk_VT E) M_X11_tellFaults (C_X11_tellFaults E) P PX K n 137 [l0, l1, l2] (v :: r) (σ, sz, k, c))) := ⟨by intros; rfl, by intros; rfl, by intros; rfl, by intros; rfl, by intros; rfl, by intros; rfl, by intros; rfl, by intros; rfl, by intros; rfl, by intros; rfl, by intros; rfl, by intros; rfl, by intros; rfl, by intros; rfl, by intros; rfl, by intros; rfl, by intros; rfl, by intros; rfl, by intros; rfl, by intros; rfl, by intros; rfl, by intros; rfl, by intros; rfl, by intros; rfl, by intros; rfl, by intros; rfl, by intros; rfl, by intros; rfl, by intros; rfl, by intros; rfl, by intros; rfl, by intros; rfl, by intros; rfl, by intros; rfl, by intros; rfl, by intros; rfl, by intros; rfl, by intros; rfl, by intros; rfl, by intros; rfl⟩
theorem r_X11_tellFaults_2 (E : zk_E) (P : zk_P zk_S) (PX : zk_X zk_S) (K : Nat → zk_L → List Value → zk_W zk_S → Prop) : (∀ (n : Nat) (l0 l1 l2 : Option Value) (x y : Int32) (r : List Value) (σ : zk_S) (sz k c : Nat), zk_run E (zk_VT E) M_X11_tellFaults (C_X11_tellFaults E) P PX K (n + 1) 137 [l0, l1, l2] (.int y :: .int x :: r) (σ, sz, k, c) = ((y ≤ x → zk_run E (zk_VT E) M_X11_tellFaults (C_X11_tellFaults E) P PX K n 180 [l0, l1, l2] r (σ, sz, k, c)) ∧ (¬ (y ≤ x) → zk_run E (zk_VT E) M_X11_tellFaults (C_X11_tellFaults E) P PX K n 140 [l0, l1, l2] r (σ, sz, k, c)))) ∧
  (∀ (n : Nat) (l0 l2 : Option Value) (y1 : Int32) (r : List Value) (σ : zk_S) (sz k c : Nat), zk_run E (zk_VT E) M_X11_tellFaults (C_X11_tellFaults E) P PX K (n + 1) 140 [l0, some (.int y1), l2] r (σ, sz, k, c) = zk_run E (zk_VT E) M_X11_tellFaults (C_X11_tellFaults E) P PX K n 141 [l0, some (.int y1), l2] (.int y1 :: r) (σ, sz, k, c)) ∧
  (∀ (n : Nat) (l0 l1 l2 : Option Value)  (r : List Value) (σ : zk_S) (sz k c : Nat), zk_run E (zk_VT E) M_X11_tellFaults (C_X11_tellFaults E) P PX K (n + 1) 141 [l0, l1, l2] r (σ, sz, k, c) = zk_run E (zk_VT E) M_X11_tellFaults (C_X11_tellFaults E) P PX K n 142 [l0, l1, l2] (.int (2) :: r) (σ, sz, k, c)) ∧
  (∀ (n : Nat) (l0 l1 l2 : Option Value) (x y : Int32) (r : List Value) (σ : zk_S) (sz k c : Nat), zk_run E (zk_VT E) M_X11_tellFaults (C_X11_tellFaults E) P PX K (n + 1) 142 [l0, l1, l2] (.int y :: .int x :: r) (σ, sz, k, c) = ((x = y → zk_run E (zk_VT E) M_X11_tellFaults (C_X11_tellFaults E) P PX K n 180 [l0, l1, l2] r (σ, sz, k, c)) ∧ (¬ (x = y) → zk_run E (zk_VT E) M_X11_tellFaults (C_X11_tellFaults E) P PX K n 145 [l0, l1, l2] r (σ, sz, k, c)))) ∧
  (∀ (n : Nat) (l0 l2 : Option Value) (y1 : Int32) (r : List Value) (σ : zk_S) (sz k c : Nat), zk_run E (zk_VT E) M_X11_tellFaults (C_X11_tellFaults E) P PX K (n + 1) 145 [l0, some (.int y1), l2] r (σ, sz, k, c) = zk_run E (zk_VT E) M_X11_tellFaults (C_X11_tellFaults E) P PX K n 146 [l0, some (.int y1), l2] (.int y1 :: r) (σ, sz, k, c)) ∧
  (∀ (n : Nat) (l0 l1 l2 : Option Value)  (r : List Value) (σ : zk_S) (sz k c : Nat), zk_run E (zk_VT E) M_X11_tellFaults (C_X11_tellFaults E) P PX K (n + 1) 146 [l0, l1, l2] r (σ, sz, k, c) = zk_run E (zk_VT E) M_X11_tellFaults (C_X11_tellFaults E) P PX K n 148 [l0, l1, l2] (.int (8) :: r) (σ, sz, k, c)) ∧
  (∀ (n : Nat) (l0 l1 l2 : Option Value) (x y : Int32) (r : List Value) (σ : zk_S) (sz k c : Nat), zk_run E (zk_VT E) M_X11_tellFaults (C_X11_tellFaults E) P PX K (n + 1) 148 [l0, l1, l2] (.int y :: .int x :: r) (σ, sz, k, c) = ((x = y → zk_run E (zk_VT E) M_X11_tellFaults (C_X11_tellFaults E) P PX K n 180 [l0, l1, l2] r (σ, sz, k, c)) ∧ (¬ (x = y) → zk_run E (zk_VT E) M_X11_tellFaults (C_X11_tellFaults E) P PX K n 151 [l0, l1, l2] r (σ, sz, k, c)))) ∧
  (∀ (n : Nat) (l1 l2 : Option Value) (y0 : Value) (r : List Value) (σ : zk_S) (sz k c : Nat), zk_run E (zk_VT E) M_X11_tellFaults (C_X11_tellFaults E) P PX K (n + 1) 151 [some y0, l1, l2] r (σ, sz, k, c) = (zk_isr y0 ∧ zk_run E (zk_VT E) M_X11_tellFaults (C_X11_tellFaults E) P PX K n 152 [some y0, l1, l2] (y0 :: r) (σ, sz, k, c))) ∧
  (∀ (n : Nat) (l0 l1 l2 : Option Value) (a : Nat) (r : List Value) (σ : zk_S) (sz k c : Nat), zk_run E (zk_VT E) M_X11_tellFaults (C_X11_tellFaults E) P PX K (n + 1) 152 [l0, l1, l2] (.ref a :: r) (σ, sz, k, c) = zk_fld (zk_view E σ a) [10] 2 (fun v => zk_run E (zk_VT E) M_X11_tellFaults (C_X11_tellFaults E) P PX K n 155 [l0, l1, l2] (v :: r) (σ, sz, k, c))) ∧
  (∀ (n : Nat) (l0 l1 : Option Value) (y2 : Int32) (r : List Value) (σ : zk_S) (sz k c : Nat), zk_run E (zk_VT E) M_X11_tellFaults (C_X11_tellFaults E) P PX K (n + 1) 155 [l0, l1, some (.int y2)] r (σ, sz, k, c) = zk_run E (zk_VT E) M_X11_tellFaults (C_X11_tellFaults E) P PX K n 156 [l0, l1, some (.int y2)] (.int y2 :: r) (σ, sz, k, c)) ∧
  (∀ (n : Nat) (l0 l1 l2 : Option Value) (a : Nat) (i : Int32) (r : List Value) (σ : zk_S) (sz k c : Nat), zk_run E (zk_VT E) M_X11_tellFaults (C_X11_tellFaults E) P PX K (n + 1) 156 [l0, l1, l2] (.int i :: .ref a :: r) (σ, sz, k, c) = zk_ild (zk_view E σ a) (zk_ar E 0) i (fun x => zk_run E (zk_VT E) M_X11_tellFaults (C_X11_tellFaults E) P PX K n 157 [l0, l1, l2] (.int x :: r) (σ, sz, k, c))) ∧
  (∀ (n : Nat) (l0 l1 l2 : Option Value)  (r : List Value) (σ : zk_S) (sz k c : Nat), zk_run E (zk_VT E) M_X11_tellFaults (C_X11_tellFaults E) P PX K (n + 1) 157 [l0, l1, l2] r (σ, sz, k, c) = zk_run E (zk_VT E) M_X11_tellFaults (C_X11_tellFaults E) P PX K n 159 [l0, l1, l2] (.int ((-2)) :: r) (σ, sz, k, c)) ∧
  (∀ (n : Nat) (l0 l1 l2 : Option Value) (x y : Int32) (r : List Value) (σ : zk_S) (sz k c : Nat), zk_run E (zk_VT E) M_X11_tellFaults (C_X11_tellFaults E) P PX K (n + 1) 159 [l0, l1, l2] (.int y :: .int x :: r) (σ, sz, k, c) = ((x = y → zk_run E (zk_VT E) M_X11_tellFaults (C_X11_tellFaults E) P PX K n 174 [l0, l1, l2] r (σ, sz, k, c)) ∧ (¬ (x = y) → zk_run E (zk_VT E) M_X11_tellFaults (C_X11_tellFaults E) P PX K n 162 [l0, l1, l2] r (σ, sz, k, c)))) ∧
  (∀ (n : Nat) (l1 l2 : Option Value) (y0 : Value) (r : List Value) (σ : zk_S) (sz k c : Nat), zk_run E (zk_VT E) M_X11_tellFaults (C_X11_tellFaults E) P PX K (n + 1) 162 [some y0, l1, l2] r (σ, sz, k, c) = (zk_isr y0 ∧ zk_run E (zk_VT E) M_X11_tellFaults (C_X11_tellFaults E) P PX K n 163 [some y0, l1, l2] (y0 :: r) (σ, sz, k, c))) ∧
  (∀ (n : Nat) (l0 l2 : Option Value) (y1 : Int32) (r : List Value) (σ : zk_S) (sz k c : Nat), zk_run E (zk_VT E) M_X11_tellFaults (C_X11_tellFaults E) P PX K (n + 1) 163 [l0, some (.int y1), l2] r (σ, sz, k, c) = zk_run E (zk_VT E) M_X11_tellFaults (C_X11_tellFaults E) P PX K n 164 [l0, some (.int y1), l2] (.int y1 :: r) (σ, sz, k, c)) ∧
  (∀ (n : Nat) (l0 l1 : Option Value) (y2 : Int32) (r : List Value) (σ : zk_S) (sz k c : Nat), zk_run E (zk_VT E) M_X11_tellFaults (C_X11_tellFaults E) P PX K (n + 1) 164 [l0, l1, some (.int y2)] r (σ, sz, k, c) = zk_run E (zk_VT E) M_X11_tellFaults (C_X11_tellFaults E) P PX K n 165 [l0, l1, some (.int y2)] (.int y2 :: r) (σ, sz, k, c)) ∧
  (∀ (n : Nat) (l1 l2 : Option Value) (y0 : Value) (r : List Value) (σ : zk_S) (sz k c : Nat), zk_run E (zk_VT E) M_X11_tellFaults (C_X11_tellFaults E) P PX K (n + 1) 165 [some y0, l1, l2] r (σ, sz, k, c) = (zk_isr y0 ∧ zk_run E (zk_VT E) M_X11_tellFaults (C_X11_tellFaults E) P PX K n 166 [some y0, l1, l2] (y0 :: r) (σ, sz, k, c))) ∧
  (∀ (n : Nat) (l0 l2 : Option Value) (y1 : Int32) (r : List Value) (σ : zk_S) (sz k c : Nat), zk_run E (zk_VT E) M_X11_tellFaults (C_X11_tellFaults E) P PX K (n + 1) 166 [l0, some (.int y1), l2] r (σ, sz, k, c) = zk_run E (zk_VT E) M_X11_tellFaults (C_X11_tellFaults E) P PX K n 167 [l0, some (.int y1), l2] (.int y1 :: r) (σ, sz, k, c)) ∧
  (∀ (n : Nat) (l0 l1 : Option Value) (y2 : Int32) (r : List Value) (σ : zk_S) (sz k c : Nat), zk_run E (zk_VT E) M_X11_tellFaults (C_X11_tellFaults E) P PX K (n + 1) 167 [l0, l1, some (.int y2)] r (σ, sz, k, c) = zk_run E (zk_VT E) M_X11_tellFaults (C_X11_tellFaults E) P PX K n 168 [l0, l1, some (.int y2)] (.int y2 :: r) (σ, sz, k, c)) ∧
  (∀ (n : Nat) (l0 l1 l2 : Option Value) (v0 : Value) (v1 : Value) (v2 : Value) (v3 : Value) (v4 : Value) (v5 : Value)  (σ : zk_S) (sz k c : Nat), zk_run E (zk_VT E) M_X11_tellFaults (C_X11_tellFaults E) P PX K (n + 1) 168 [l0, l1, l2] [v0, v1, v2, v3, v4, v5] (σ, sz, k, c) = (k + 0 ≤ 0 ∧ c + 0 ≤ 0 ∧ (zk_rv (zk_VT E) (fun ci => Nat.beq ci 10) (sp_X11_byRoom E)) [v2, v1, v0] σ sz (fun v s2 z2 => zk_run E (zk_VT E) M_X11_tellFaults (C_X11_tellFaults E) P PX K n 171 [l0, l1, l2] (zk_psh v [v3, v4, v5]) (s2, z2, k + 0, c + 0)) (fun X s2 z2 => PX X s2 z2))) ∧
  (∀ (n : Nat) (l0 l1 l2 : Option Value) (v0 : Value) (v1 : Value) (v2 : Value) (v3 : Value)  (σ : zk_S) (sz k c : Nat), zk_run E (zk_VT E) M_X11_tellFaults (C_X11_tellFaults E) P PX K (n + 1) 171 [l0, l1, l2] [v0, v1, v2, v3] (σ, sz, k, c) = (k + 0 ≤ 0 ∧ c + 0 ≤ 0 ∧ (zk_rv (zk_VT E) (fun ci => Nat.beq ci 10) (sp_X11_tell E)) [v3, v2, v1, v0] σ sz (fun v s2 z2 => zk_run E (zk_VT E) M_X11_tellFaults (C_X11_tellFaults E) P PX K n 174 [l0, l1, l2] (zk_psh v []) (s2, z2, k + 0, c + 0)) (fun X s2 z2 => PX X s2 z2))) ∧
  (∀ (n : Nat) (l0 l1 : Option Value) (y2 : Int32) (r : List Value) (σ : zk_S) (sz k c : Nat), zk_run E (zk_VT E) M_X11_tellFaults (C_X11_tellFaults E) P PX K (n + 1) 174 [l0, l1, some (.int y2)] r (σ, sz, k, c) = zk_run E (zk_VT E) M_X11_tellFaults (C_X11_tellFaults E) P PX K n 177 [l0, zk_kl l1, some (.int (y2 + 1))] r (σ, sz, k, c)) ∧
  (∀ (n : Nat) (l0 l1 l2 : Option Value)  (r : List Value) (σ : zk_S) (sz k c : Nat), zk_run E (zk_VT E) M_X11_tellFaults (C_X11_tellFaults E) P PX K (n + 1) 177 [l0, l1, l2] r (σ, sz, k, c) = zk_run E (zk_VT E) M_X11_tellFaults (C_X11_tellFaults E) P PX K n 132 [l0, l1, l2] r (σ, sz, k, c)) ∧
  (∀ (n : Nat) (l0 l2 : Option Value) (y1 : Int32) (r : List Value) (σ : zk_S) (sz k c : Nat), zk_run E (zk_VT E) M_X11_tellFaults (C_X11_tellFaults E) P PX K (n + 1) 180 [l0, some (.int y1), l2] r (σ, sz, k, c) = zk_run E (zk_VT E) M_X11_tellFaults (C_X11_tellFaults E) P PX K n 183 [zk_kl l0, some (.int (y1 + 1)), l2] r (σ, sz, k, c)) ∧
  (∀ (n : Nat) (l0 l1 l2 : Option Value)  (r : List Value) (σ : zk_S) (sz k c : Nat), zk_run E (zk_VT E) M_X11_tellFaults (C_X11_tellFaults E) P PX K (n + 1) 183 [l0, l1, l2] r (σ, sz, k, c) = zk_run E (zk_VT E) M_X11_tellFaults (C_X11_tellFaults E) P PX K n 11 [l0, l1, l2] r (σ, sz, k, c)) ∧
  (∀ (n : Nat) (l0 l1 l2 : Option Value)   (σ : zk_S) (sz k c : Nat), zk_run E (zk_VT E) M_X11_tellFaults (C_X11_tellFaults E) P PX K (n + 1) 186 [l0, l1, l2] [] (σ, sz, k, c) = (P none σ sz ∧ k ≤ 0 ∧ c ≤ 0)) ∧
  (∀ (n : Nat) (l0 l1 l2 : Option Value) (r : List Value) (w : zk_W zk_S), zk_go E (zk_VT E) M_X11_tellFaults (C_X11_tellFaults E) P PX K n 0 [l0, l1, l2] r w = zk_run E (zk_VT E) M_X11_tellFaults (C_X11_tellFaults E) P PX K (n + 1) 0 [l0, l1, l2] r w) ∧
  (∀ (n : Nat) (l0 l2 : Option Value) (y1 : Int32) (r : List Value) (σ : zk_S) (sz k c : Nat), zk_go E (zk_VT E) M_X11_tellFaults (C_X11_tellFaults E) P PX K n 11 [l0, some (.int y1), l2] r (σ, sz, k, c) = zk_run E (zk_VT E) M_X11_tellFaults (C_X11_tellFaults E) P PX K n 12 [l0, some (.int y1), l2] (.int y1 :: r) (σ, sz, k, c)) ∧
  (∀ (n : Nat) (l0 l1 : Option Value) (y2 : Int32) (r : List Value) (σ : zk_S) (sz k c : Nat), zk_go E (zk_VT E) M_X11_tellFaults (C_X11_tellFaults E) P PX K n 19 [l0, l1, some (.int y2)] r (σ, sz, k, c) = zk_run E (zk_VT E) M_X11_tellFaults (C_X11_tellFaults E) P PX K n 20 [l0, l1, some (.int y2)] (.int y2 :: r) (σ, sz, k, c)) ∧
  (∀ (n : Nat) (l0 l1 : Option Value) (y2 : Int32) (r : List Value) (σ : zk_S) (sz k c : Nat), zk_go E (zk_VT E) M_X11_tellFaults (C_X11_tellFaults E) P PX K n 76 [l0, l1, some (.int y2)] r (σ, sz, k, c) = zk_run E (zk_VT E) M_X11_tellFaults (C_X11_tellFaults E) P PX K n 77 [l0, l1, some (.int y2)] (.int y2 :: r) (σ, sz, k, c)) ∧
  (∀ (n : Nat) (l0 l1 : Option Value) (y2 : Int32) (r : List Value) (σ : zk_S) (sz k c : Nat), zk_go E (zk_VT E) M_X11_tellFaults (C_X11_tellFaults E) P PX K n 132 [l0, l1, some (.int y2)] r (σ, sz, k, c) = zk_run E (zk_VT E) M_X11_tellFaults (C_X11_tellFaults E) P PX K n 133 [l0, l1, some (.int y2)] (.int y2 :: r) (σ, sz, k, c)) := ⟨by intros; rfl, by intros; rfl, by intros; rfl, by intros; rfl, by intros; rfl, by intros; rfl, by intros; rfl, by intros; rfl, by intros; rfl, by intros; rfl, by intros; rfl, by intros; rfl, by intros; rfl, by intros; rfl, by intros; rfl, by intros; rfl, by intros; rfl, by intros; rfl, by intros; rfl, by intros; rfl, by intros; rfl, by intros; rfl, by intros; rfl, by intros; rfl, by intros; rfl, by intros; rfl, by intros; rfl, by intros; rfl, by intros; rfl, by intros; rfl, by intros; rfl⟩
theorem vc_X11_tellFaults (E : zk_E) : zk_VC E (zk_VT E) M_X11_tellFaults (C_X11_tellFaults E) 3 (sp_X11_tellFaults E) := by
  intro av σ sz P PX h
  obtain ⟨J, N, Q, O, U⟩ := σ
  unfold sp_X11_tellFaults at h
  split at h
  case h_2 => exact h.elim
  rename_i a0
  obtain ⟨rfl, h⟩ := h
  refine ⟨Nat.le_of_ble_eq_true rfl, fun G hG => ?_⟩
  change G 0 [some (.ref (zk_ad E 22)), none, none] [] ((J, N, Q, O, U), sz, 0, 0)
  try dsimp only at h
  obtain ⟨hmi, h⟩ := h
  have hms := hmi.1
  have hnd40 := hms.2.1.2
  have hns10 := hms.2.2.2.2
  have hnr20 := hms.1.2
  have key : ∀ J1 N1, SO J J1 N N1 → ∀ F, G 11 [some (.ref (zk_ad E 22)), some (.int (nI 0)), none] [] ((zk_uj J1 22 33 (nI 0), zk_un N1 51 F, Q, O, U), sz, 0, 0) := by
    intro J1 N1 hso F0
    have hse := hso.2.1
    have hthr := hso.thr
    have es0 := hse.es
    have es : ∀ x F, ES J (zk_uj J1 22 33 x) N (zk_un N1 51 F) := fun x F => ((hse.uj (by decide)).un (by decide)).es
    have hmi2 : ∀ x F, MI (zk_uj J1 22 33 x) (zk_un N1 51 F) := fun x F => (es x F).mi hmi
    have hsv2 : ∀ x F, SV (zk_uj J1 22 33 x) (zk_un N1 51 F) := fun x F => hso.sv.same ((ES.uj (by decide)).trans (ES.un (by decide))) rfl (fun o ho => by unfold zk_un; rw [if_neg (by omega)])
    have hal : ∀ x F, a_load (zk_uj J1 22 33 x) (zk_un N1 51 F) = a_load J N := fun x F => (es x F).a6
    have hby : ∀ x F, a_by (zk_uj J1 22 33 x) (zk_un N1 51 F) = a_by J N := fun x F => (es x F).by
    have hJ9 : J1 22 9 = nI (m_nd J) := es0.2.1.trans hms.2.1.1
    have hJ23 : J1 22 23 = nI (m_ns J) := es0.2.2.2.1.trans hms.2.2.2.1
    have hJ1 : J1 22 1 = nI (m_nr J) := es0.1.trans hms.1.1
    have h23 : N1 23 = N 23 := es0.n (by decide)
    have h30 : N1 30 = N 30 := es0.n (by decide)
    have h34 : N1 34 = N 34 := es0.n (by decide)
    have h42 : N1 42 = N 42 := es0.n (by decide)
    have h46 : N1 46 = N 46 := es0.n (by decide)
    have i2 : vp_in 2 10 := n_in (n := 2) (by decide) (by decide)
    have i8 : vp_in 8 10 := n_in (n := 8) (by decide) (by decide)
    have t2 : (2 : Int32).toNatClampNeg = 2 ∧ (8 : Int32).toNatClampNeg = 8 := ⟨rfl, rfl⟩
    have e2 : ∀ k, k < 10 → (nI k = 2) = (k = 2) := fun k hk => n_inj (b := 2) (by omega) (by decide)
    have e8 : ∀ k, k < 10 → (nI k = 8) = (k = 8) := fun k hk => n_inj (b := 8) (by omega) (by decide)
    have fin : ∀ L F l2, FTL F L → L = a_fl J N 10 → G 11 [some (.ref (zk_ad E 22)), some (.int (nI 10)), l2] [] ((zk_uj J1 22 33 (nI L.length), zk_un N1 51 F, Q, O, U), sz, 0, 0) := by
      intro L F l2 hF hL
      have c1 : (10 : Int32) ≤ nI 10 := by decide
      have h2 := h (zk_uj J1 22 33 (nI L.length)) (zk_un N1 51 F) ⟨(hse.uj (by decide)).un (by decide), hthr, hsv2 _ _, by rw [hL]; unfold zk_uj; rw [if_pos ⟨rfl, rfl⟩], by rw [← hL]; unfold zk_un; rw [if_pos rfl]; exact hF⟩
      (refine hG 900 _ _ _ _ ?_; simp only [r_X11_tellFaults, r_X11_tellFaults_1, r_X11_tellFaults_2, zk_kl_none, zk_kl_int, zk_kl_ref, zk_kl_null, zk_kl_long, zk_kl_rf, zk_isr_ref, zk_isr_null, zk_isr_rf9, zk_c1_int, zk_c1_ref, zk_c1_null, zk_c1_rf, zk_psh_some, zk_psh_none, zk_nok_int, zk_nok_bool0, zk_nok_bool1, zk_nok_b, zk_fok_0, zk_fok_1, zk_fok_2, zk_fok_n, zk_fok_rf, zb_f, zb_p, zb_i, zb_a, zb_s, zk_nth_0, zk_nth_s, zk_fld_o, zk_put_o, zk_rv_eq, zk_ri_eq, zk_is_o, List.mem_cons, List.not_mem_nil, or_false, false_or, or_true, true_or, and_true, true_and, not_false_iff, not_true_eq_false, true_implies, false_implies, imp_self, implies_true, forall_const, zk_lit, zk_uj_ap, zk_un_ap, zk_un_un, zk_uj_uj, Nat.reduceEqDiff, eq_self, zk_bq, Bool.true_or, Bool.false_or, Nat.le_refl, Nat.zero_add, Nat.add_zero, Nat.reduceAdd, Nat.reduceLeDiff, Nat.le_zero_eq, and_self, and_false, false_and, ite_true, ite_false, Nat.zero_le, List.length_cons, List.length_nil, Option.some.injEq, forall_eq', reduceCtorEq, c1])
      exact h2
    have s19 : ∀ (k : Nat) (σ : Int32 × (Nat → Int32)), k < 10 → ¬ k = 2 → G 76 [some (.ref (zk_ad E 22)), some (.int (nI k)), some (.int (nI 0))] [] ((zk_uj J1 22 33 σ.1, zk_un N1 51 σ.2, Q, O, U), sz, 0, 0) → G 19 [some (.ref (zk_ad E 22)), some (.int (nI k)), some (.int (nI 0))] [] ((zk_uj J1 22 33 σ.1, zk_un N1 51 σ.2, Q, O, U), sz, 0, 0) := by
      intro k σ hk hk2 hG76
      have q := e2 k hk
      have e0 : (0 : Int32) = nI 0 := rfl
      (refine hG 900 _ _ _ _ ?_; simp only [r_X11_tellFaults, r_X11_tellFaults_1, r_X11_tellFaults_2, zk_kl_none, zk_kl_int, zk_kl_ref, zk_kl_null, zk_kl_long, zk_kl_rf, zk_isr_ref, zk_isr_null, zk_isr_rf9, zk_c1_int, zk_c1_ref, zk_c1_null, zk_c1_rf, zk_psh_some, zk_psh_none, zk_nok_int, zk_nok_bool0, zk_nok_bool1, zk_nok_b, zk_fok_0, zk_fok_1, zk_fok_2, zk_fok_n, zk_fok_rf, zb_f, zb_p, zb_i, zb_a, zb_s, zk_nth_0, zk_nth_s, zk_fld_o, zk_put_o, zk_rv_eq, zk_ri_eq, zk_is_o, List.mem_cons, List.not_mem_nil, or_false, false_or, or_true, true_or, and_true, true_and, not_false_iff, not_true_eq_false, true_implies, false_implies, imp_self, implies_true, forall_const, zk_lit, zk_uj_ap, zk_un_ap, zk_un_un, zk_uj_uj, Nat.reduceEqDiff, eq_self, zk_bq, Bool.true_or, Bool.false_or, Nat.le_refl, Nat.zero_add, Nat.add_zero, Nat.reduceAdd, Nat.reduceLeDiff, Nat.le_zero_eq, and_self, and_false, false_and, ite_true, ite_false, Nat.zero_le, List.length_cons, List.length_nil, Option.some.injEq, forall_eq', reduceCtorEq, hJ9, q, hk2, e0])
      exact ⟨fun _ => hG76, fun _ => hG76⟩
    have s76 : ∀ (k : Nat) (σ : Int32 × (Nat → Int32)), k < 10 → ¬ k = 8 → G 132 [some (.ref (zk_ad E 22)), some (.int (nI k)), some (.int (nI 0))] [] ((zk_uj J1 22 33 σ.1, zk_un N1 51 σ.2, Q, O, U), sz, 0, 0) → G 76 [some (.ref (zk_ad E 22)), some (.int (nI k)), some (.int (nI 0))] [] ((zk_uj J1 22 33 σ.1, zk_un N1 51 σ.2, Q, O, U), sz, 0, 0) := by
      intro k σ hk hk2 hG76
      have q := e8 k hk
      have e0 : (0 : Int32) = nI 0 := rfl
      (refine hG 900 _ _ _ _ ?_; simp only [r_X11_tellFaults, r_X11_tellFaults_1, r_X11_tellFaults_2, zk_kl_none, zk_kl_int, zk_kl_ref, zk_kl_null, zk_kl_long, zk_kl_rf, zk_isr_ref, zk_isr_null, zk_isr_rf9, zk_c1_int, zk_c1_ref, zk_c1_null, zk_c1_rf, zk_psh_some, zk_psh_none, zk_nok_int, zk_nok_bool0, zk_nok_bool1, zk_nok_b, zk_fok_0, zk_fok_1, zk_fok_2, zk_fok_n, zk_fok_rf, zb_f, zb_p, zb_i, zb_a, zb_s, zk_nth_0, zk_nth_s, zk_fld_o, zk_put_o, zk_rv_eq, zk_ri_eq, zk_is_o, List.mem_cons, List.not_mem_nil, or_false, false_or, or_true, true_or, and_true, true_and, not_false_iff, not_true_eq_false, true_implies, false_implies, imp_self, implies_true, forall_const, zk_lit, zk_uj_ap, zk_un_ap, zk_un_un, zk_uj_uj, Nat.reduceEqDiff, eq_self, zk_bq, Bool.true_or, Bool.false_or, Nat.le_refl, Nat.zero_add, Nat.add_zero, Nat.reduceAdd, Nat.reduceLeDiff, Nat.le_zero_eq, and_self, and_false, false_and, ite_true, ite_false, Nat.zero_le, List.length_cons, List.length_nil, Option.some.injEq, forall_eq', reduceCtorEq, hJ23, q, hk2, e0])
      exact ⟨fun _ => hG76, fun _ => hG76⟩
    have s132 : ∀ (k : Nat) (σ : Int32 × (Nat → Int32)), k < 10 → (k = 2 ∨ k = 8) → (∀ l2, G 11 [some (.ref (zk_ad E 22)), some (.int (nI (k + 1))), l2] [] ((zk_uj J1 22 33 σ.1, zk_un N1 51 σ.2, Q, O, U), sz, 0, 0)) → G 132 [some (.ref (zk_ad E 22)), some (.int (nI k)), some (.int (nI 0))] [] ((zk_uj J1 22 33 σ.1, zk_un N1 51 σ.2, Q, O, U), sz, 0, 0) := by
      intro k σ hk hk2 hG11
      have q2 := e2 k hk
      have q8 := e8 k hk
      rcases hk2 with rfl | rfl
      · (refine hG 900 _ _ _ _ ?_; simp only [r_X11_tellFaults, r_X11_tellFaults_1, r_X11_tellFaults_2, zk_kl_none, zk_kl_int, zk_kl_ref, zk_kl_null, zk_kl_long, zk_kl_rf, zk_isr_ref, zk_isr_null, zk_isr_rf9, zk_c1_int, zk_c1_ref, zk_c1_null, zk_c1_rf, zk_psh_some, zk_psh_none, zk_nok_int, zk_nok_bool0, zk_nok_bool1, zk_nok_b, zk_fok_0, zk_fok_1, zk_fok_2, zk_fok_n, zk_fok_rf, zb_f, zb_p, zb_i, zb_a, zb_s, zk_nth_0, zk_nth_s, zk_fld_o, zk_put_o, zk_rv_eq, zk_ri_eq, zk_is_o, List.mem_cons, List.not_mem_nil, or_false, false_or, or_true, true_or, and_true, true_and, not_false_iff, not_true_eq_false, true_implies, false_implies, imp_self, implies_true, forall_const, zk_lit, zk_uj_ap, zk_un_ap, zk_un_un, zk_uj_uj, Nat.reduceEqDiff, eq_self, zk_bq, Bool.true_or, Bool.false_or, Nat.le_refl, Nat.zero_add, Nat.add_zero, Nat.reduceAdd, Nat.reduceLeDiff, Nat.le_zero_eq, and_self, and_false, false_and, ite_true, ite_false, Nat.zero_le, List.length_cons, List.length_nil, Option.some.injEq, forall_eq', reduceCtorEq, hJ1, q2, q8, n_succ])
        exact ⟨fun _ => hG11 _, fun _ => hG11 _⟩
      · have z : (8 = 2) = False := by decide
        (refine hG 900 _ _ _ _ ?_; simp only [r_X11_tellFaults, r_X11_tellFaults_1, r_X11_tellFaults_2, zk_kl_none, zk_kl_int, zk_kl_ref, zk_kl_null, zk_kl_long, zk_kl_rf, zk_isr_ref, zk_isr_null, zk_isr_rf9, zk_c1_int, zk_c1_ref, zk_c1_null, zk_c1_rf, zk_psh_some, zk_psh_none, zk_nok_int, zk_nok_bool0, zk_nok_bool1, zk_nok_b, zk_fok_0, zk_fok_1, zk_fok_2, zk_fok_n, zk_fok_rf, zb_f, zb_p, zb_i, zb_a, zb_s, zk_nth_0, zk_nth_s, zk_fld_o, zk_put_o, zk_rv_eq, zk_ri_eq, zk_is_o, List.mem_cons, List.not_mem_nil, or_false, false_or, or_true, true_or, and_true, true_and, not_false_iff, not_true_eq_false, true_implies, false_implies, imp_self, implies_true, forall_const, zk_lit, zk_uj_ap, zk_un_ap, zk_un_un, zk_uj_uj, Nat.reduceEqDiff, eq_self, zk_bq, Bool.true_or, Bool.false_or, Nat.le_refl, Nat.zero_add, Nat.add_zero, Nat.reduceAdd, Nat.reduceLeDiff, Nat.le_zero_eq, and_self, and_false, false_and, ite_true, ite_false, Nat.zero_le, List.length_cons, List.length_nil, Option.some.injEq, forall_eq', reduceCtorEq, hJ1, q2, q8, z, n_succ])
        exact ⟨fun _ => hG11 _, fun _ => hG11 _⟩
    have tl : ∀ L : zk_F3, L.length < 400 → ∃ n, n < 400 ∧ nI L.length = nI n := fun L h => ⟨_, h, rfl⟩
    have tc : ∀ L : zk_F3, L.length < 400 → (nI L.length).toNatClampNeg = L.length := fun L h => n_cl (by omega)
    have loopD : ∀ m d F L, d + m = m_nd J → L = a_fl J N 2 ++ a_told J N 2 d → FTL F L → (∀ F2 L2, L2 = a_fl J N 3 → FTL F2 L2 → G 76 [some (.ref (zk_ad E 22)), some (.int (nI 2)), some (.int (nI 0))] [] ((zk_uj J1 22 33 (nI L2.length), zk_un N1 51 F2, Q, O, U), sz, 0, 0)) → G 19 [some (.ref (zk_ad E 22)), some (.int (nI 2)), some (.int (nI d))] [] ((zk_uj J1 22 33 (nI L.length), zk_un N1 51 F, Q, O, U), sz, 0, 0) := by
      intro m
      induction m with
      | zero =>
        intro d F L hd hL hF hK
        have c1 : nI (m_nd J) ≤ nI d := nI_le (by omega) (by omega)
        have hk := hK F L (by rw [hL, show d = m_nd J by omega, ← a_fl_2 hms]) hF
        have e0 : (0 : Int32) = nI 0 := rfl
        (refine hG 900 _ _ _ _ ?_; simp only [r_X11_tellFaults, r_X11_tellFaults_1, r_X11_tellFaults_2, zk_kl_none, zk_kl_int, zk_kl_ref, zk_kl_null, zk_kl_long, zk_kl_rf, zk_isr_ref, zk_isr_null, zk_isr_rf9, zk_c1_int, zk_c1_ref, zk_c1_null, zk_c1_rf, zk_psh_some, zk_psh_none, zk_nok_int, zk_nok_bool0, zk_nok_bool1, zk_nok_b, zk_fok_0, zk_fok_1, zk_fok_2, zk_fok_n, zk_fok_rf, zb_f, zb_p, zb_i, zb_a, zb_s, zk_nth_0, zk_nth_s, zk_fld_o, zk_put_o, zk_rv_eq, zk_ri_eq, zk_is_o, List.mem_cons, List.not_mem_nil, or_false, false_or, or_true, true_or, and_true, true_and, not_false_iff, not_true_eq_false, true_implies, false_implies, imp_self, implies_true, forall_const, zk_lit, zk_uj_ap, zk_un_ap, zk_un_un, zk_uj_uj, Nat.reduceEqDiff, eq_self, zk_bq, Bool.true_or, Bool.false_or, Nat.le_refl, Nat.zero_add, Nat.add_zero, Nat.reduceAdd, Nat.reduceLeDiff, Nat.le_zero_eq, and_self, and_false, false_and, ite_true, ite_false, Nat.zero_le, List.length_cons, List.length_nil, Option.some.injEq, forall_eq', reduceCtorEq, hJ9, c1, e0])
        exact hk
      | succ m ih =>
        intro d F L hd hL hF hK
        have c1 : ¬ nI (m_nd J) ≤ nI d := nI_ge (by omega) (by omega)
        have hin : vp_in (nI d) 40 := n_in (by omega) (by decide)
        have hcl : (nI d).toNatClampNeg = d := n_cl (by omega)
        have z2 : nI 2 = 2 := rfl
        have hlen : L.length < 400 := by
          have := a_fl_len J N 2
          have := a_told_len J N 2 d
          rw [hL, List.length_append]; omega
        have skip : a_amt J N 2 d ≤ 0 → G 19 [some (.ref (zk_ad E 22)), some (.int (nI 2)), some (.int (nI (d + 1)))] [] ((zk_uj J1 22 33 (nI L.length), zk_un N1 51 F, Q, O, U), sz, 0, 0) := fun q => ih (d + 1) F L (by omega) (by rw [a_told, a_tl, if_pos q, List.append_nil, hL]) hF hK
        rw [z2] at skip
        by_cases q1 : N 30 d = -2
        · have s0 := skip (by unfold a_amt; rw [if_pos rfl, if_neg (fun w => w.2 q1)]; exact le00)
          (refine hG 900 _ _ _ _ ?_; simp only [r_X11_tellFaults, r_X11_tellFaults_1, r_X11_tellFaults_2, zk_kl_none, zk_kl_int, zk_kl_ref, zk_kl_null, zk_kl_long, zk_kl_rf, zk_isr_ref, zk_isr_null, zk_isr_rf9, zk_c1_int, zk_c1_ref, zk_c1_null, zk_c1_rf, zk_psh_some, zk_psh_none, zk_nok_int, zk_nok_bool0, zk_nok_bool1, zk_nok_b, zk_fok_0, zk_fok_1, zk_fok_2, zk_fok_n, zk_fok_rf, zb_f, zb_p, zb_i, zb_a, zb_s, zk_nth_0, zk_nth_s, zk_fld_o, zk_put_o, zk_rv_eq, zk_ri_eq, zk_is_o, List.mem_cons, List.not_mem_nil, or_false, false_or, or_true, true_or, and_true, true_and, not_false_iff, not_true_eq_false, true_implies, false_implies, imp_self, implies_true, forall_const, zk_lit, zk_uj_ap, zk_un_ap, zk_un_un, zk_uj_uj, Nat.reduceEqDiff, eq_self, zk_bq, Bool.true_or, Bool.false_or, Nat.le_refl, Nat.zero_add, Nat.add_zero, Nat.reduceAdd, Nat.reduceLeDiff, Nat.le_zero_eq, and_self, and_false, false_and, ite_true, ite_false, Nat.zero_le, List.length_cons, List.length_nil, Option.some.injEq, forall_eq', reduceCtorEq, hJ9, c1, z2, hin, hcl, h30, q1, n_succ])
          exact s0
        · have ha : a_amt J N 2 d = a_load J N d - N 46 2 * N 34 d := by unfold a_amt; rw [if_pos rfl, if_pos ⟨by omega, q1⟩]
          have hx : ∃ n, n < 50 ∧ nI d = nI n := ⟨d, by omega, rfl⟩
          have ht := tl L hlen
          have htc := tc L hlen
          by_cases q2 : a_amt J N 2 d ≤ 0
          · have s0 := skip q2
            rw [ha] at q2
            (refine hG 900 _ _ _ _ ?_; simp only [r_X11_tellFaults, r_X11_tellFaults_1, r_X11_tellFaults_2, zk_kl_none, zk_kl_int, zk_kl_ref, zk_kl_null, zk_kl_long, zk_kl_rf, zk_isr_ref, zk_isr_null, zk_isr_rf9, zk_c1_int, zk_c1_ref, zk_c1_null, zk_c1_rf, zk_psh_some, zk_psh_none, zk_nok_int, zk_nok_bool0, zk_nok_bool1, zk_nok_b, zk_fok_0, zk_fok_1, zk_fok_2, zk_fok_n, zk_fok_rf, zb_f, zb_p, zb_i, zb_a, zb_s, zk_nth_0, zk_nth_s, zk_fld_o, zk_put_o, zk_rv_eq, zk_ri_eq, zk_is_o, List.mem_cons, List.not_mem_nil, or_false, false_or, or_true, true_or, and_true, true_and, not_false_iff, not_true_eq_false, true_implies, false_implies, imp_self, implies_true, forall_const, zk_lit, zk_uj_ap, zk_un_ap, zk_un_un, zk_uj_uj, Nat.reduceEqDiff, eq_self, zk_bq, Bool.true_or, Bool.false_or, Nat.le_refl, Nat.zero_add, Nat.add_zero, Nat.reduceAdd, Nat.reduceLeDiff, Nat.le_zero_eq, and_self, and_false, false_and, ite_true, ite_false, Nat.zero_le, List.length_cons, List.length_nil, Option.some.injEq, forall_eq', reduceCtorEq, hJ9, c1, z2, hin, hcl, h30, h34, h46, i2, t2, q1, q2, hx, ht, htc, spe_X11_loadNow, hmi2, hsv2, hal, spe_X11_tell, n_succ])
            exact s0
          · have s0 := ih (d + 1) _ _ (by omega) (by rw [a_told, a_tl, if_neg q2, ← List.append_assoc, ← hL]) (hF.app) hK
            rw [ha] at q2 s0
            rw [List.length_append, List.length_singleton] at s0
            (refine hG 900 _ _ _ _ ?_; simp only [r_X11_tellFaults, r_X11_tellFaults_1, r_X11_tellFaults_2, zk_kl_none, zk_kl_int, zk_kl_ref, zk_kl_null, zk_kl_long, zk_kl_rf, zk_isr_ref, zk_isr_null, zk_isr_rf9, zk_c1_int, zk_c1_ref, zk_c1_null, zk_c1_rf, zk_psh_some, zk_psh_none, zk_nok_int, zk_nok_bool0, zk_nok_bool1, zk_nok_b, zk_fok_0, zk_fok_1, zk_fok_2, zk_fok_n, zk_fok_rf, zb_f, zb_p, zb_i, zb_a, zb_s, zk_nth_0, zk_nth_s, zk_fld_o, zk_put_o, zk_rv_eq, zk_ri_eq, zk_is_o, List.mem_cons, List.not_mem_nil, or_false, false_or, or_true, true_or, and_true, true_and, not_false_iff, not_true_eq_false, true_implies, false_implies, imp_self, implies_true, forall_const, zk_lit, zk_uj_ap, zk_un_ap, zk_un_un, zk_uj_uj, Nat.reduceEqDiff, eq_self, zk_bq, Bool.true_or, Bool.false_or, Nat.le_refl, Nat.zero_add, Nat.add_zero, Nat.reduceAdd, Nat.reduceLeDiff, Nat.le_zero_eq, and_self, and_false, false_and, ite_true, ite_false, Nat.zero_le, List.length_cons, List.length_nil, Option.some.injEq, forall_eq', reduceCtorEq, hJ9, c1, z2, hin, hcl, h30, h34, h46, i2, t2, q1, q2, hx, ht, htc, spe_X11_loadNow, hmi2, hsv2, hal, spe_X11_tell, n_succ, zk_uj_uj, zk_un_un])
            exact s0
    have loopS : ∀ m d F L, d + m = m_ns J → L = a_fl J N 8 ++ a_told J N 8 d → FTL F L → (∀ F2 L2, L2 = a_fl J N 9 → FTL F2 L2 → G 132 [some (.ref (zk_ad E 22)), some (.int (nI 8)), some (.int (nI 0))] [] ((zk_uj J1 22 33 (nI L2.length), zk_un N1 51 F2, Q, O, U), sz, 0, 0)) → G 76 [some (.ref (zk_ad E 22)), some (.int (nI 8)), some (.int (nI d))] [] ((zk_uj J1 22 33 (nI L.length), zk_un N1 51 F, Q, O, U), sz, 0, 0) := by
      intro m
      induction m with
      | zero =>
        intro d F L hd hL hF hK
        have c1 : nI (m_ns J) ≤ nI d := nI_le (by omega) (by omega)
        have hk := hK F L (by rw [hL, show d = m_ns J by omega, ← a_fl_8 hms]) hF
        have e0 : (0 : Int32) = nI 0 := rfl
        (refine hG 900 _ _ _ _ ?_; simp only [r_X11_tellFaults, r_X11_tellFaults_1, r_X11_tellFaults_2, zk_kl_none, zk_kl_int, zk_kl_ref, zk_kl_null, zk_kl_long, zk_kl_rf, zk_isr_ref, zk_isr_null, zk_isr_rf9, zk_c1_int, zk_c1_ref, zk_c1_null, zk_c1_rf, zk_psh_some, zk_psh_none, zk_nok_int, zk_nok_bool0, zk_nok_bool1, zk_nok_b, zk_fok_0, zk_fok_1, zk_fok_2, zk_fok_n, zk_fok_rf, zb_f, zb_p, zb_i, zb_a, zb_s, zk_nth_0, zk_nth_s, zk_fld_o, zk_put_o, zk_rv_eq, zk_ri_eq, zk_is_o, List.mem_cons, List.not_mem_nil, or_false, false_or, or_true, true_or, and_true, true_and, not_false_iff, not_true_eq_false, true_implies, false_implies, imp_self, implies_true, forall_const, zk_lit, zk_uj_ap, zk_un_ap, zk_un_un, zk_uj_uj, Nat.reduceEqDiff, eq_self, zk_bq, Bool.true_or, Bool.false_or, Nat.le_refl, Nat.zero_add, Nat.add_zero, Nat.reduceAdd, Nat.reduceLeDiff, Nat.le_zero_eq, and_self, and_false, false_and, ite_true, ite_false, Nat.zero_le, List.length_cons, List.length_nil, Option.some.injEq, forall_eq', reduceCtorEq, hJ23, c1, e0])
        exact hk
      | succ m ih =>
        intro d F L hd hL hF hK
        have c1 : ¬ nI (m_ns J) ≤ nI d := nI_ge (by omega) (by omega)
        have hin : vp_in (nI d) 10 := n_in (by omega) (by decide)
        have hcl : (nI d).toNatClampNeg = d := n_cl (by omega)
        have hcl2 : (nI (40 + d)).toNatClampNeg = 40 + d := n_cl (by omega)
        have ea : (40 : Int32) + nI d = nI (40 + d) := n_add 40 d
        have z2 : nI 8 = 8 := rfl
        have hlen : L.length < 400 := by
          have := a_fl_len J N 8
          have := a_told_len J N 8 d
          rw [hL, List.length_append]; omega
        have skip : a_amt J N 8 d ≤ 0 → G 76 [some (.ref (zk_ad E 22)), some (.int (nI 8)), some (.int (nI (d + 1)))] [] ((zk_uj J1 22 33 (nI L.length), zk_un N1 51 F, Q, O, U), sz, 0, 0) := fun q => ih (d + 1) F L (by omega) (by rw [a_told, a_tl, if_pos q, List.append_nil, hL]) hF hK
        rw [z2] at skip
        by_cases q1 : N 42 d = -2
        · have s0 := skip (by unfold a_amt; rw [if_neg (by decide), if_pos rfl, if_neg (fun w => w.2 q1)]; exact le00)
          (refine hG 900 _ _ _ _ ?_; simp only [r_X11_tellFaults, r_X11_tellFaults_1, r_X11_tellFaults_2, zk_kl_none, zk_kl_int, zk_kl_ref, zk_kl_null, zk_kl_long, zk_kl_rf, zk_isr_ref, zk_isr_null, zk_isr_rf9, zk_c1_int, zk_c1_ref, zk_c1_null, zk_c1_rf, zk_psh_some, zk_psh_none, zk_nok_int, zk_nok_bool0, zk_nok_bool1, zk_nok_b, zk_fok_0, zk_fok_1, zk_fok_2, zk_fok_n, zk_fok_rf, zb_f, zb_p, zb_i, zb_a, zb_s, zk_nth_0, zk_nth_s, zk_fld_o, zk_put_o, zk_rv_eq, zk_ri_eq, zk_is_o, List.mem_cons, List.not_mem_nil, or_false, false_or, or_true, true_or, and_true, true_and, not_false_iff, not_true_eq_false, true_implies, false_implies, imp_self, implies_true, forall_const, zk_lit, zk_uj_ap, zk_un_ap, zk_un_un, zk_uj_uj, Nat.reduceEqDiff, eq_self, zk_bq, Bool.true_or, Bool.false_or, Nat.le_refl, Nat.zero_add, Nat.add_zero, Nat.reduceAdd, Nat.reduceLeDiff, Nat.le_zero_eq, and_self, and_false, false_and, ite_true, ite_false, Nat.zero_le, List.length_cons, List.length_nil, Option.some.injEq, forall_eq', reduceCtorEq, hJ23, c1, z2, hin, hcl, h42, q1, n_succ])
          exact s0
        · have ha : a_amt J N 8 d = a_load J N (40 + d) - N 46 8 := by unfold a_amt; rw [if_neg (by decide), if_pos rfl, if_pos ⟨by omega, q1⟩]
          have hx : ∃ n, n < 50 ∧ nI (40 + d) = nI n := ⟨40 + d, by omega, rfl⟩
          have ht := tl L hlen
          have htc := tc L hlen
          by_cases q2 : a_amt J N 8 d ≤ 0
          · have s0 := skip q2
            rw [ha] at q2
            (refine hG 900 _ _ _ _ ?_; simp only [r_X11_tellFaults, r_X11_tellFaults_1, r_X11_tellFaults_2, zk_kl_none, zk_kl_int, zk_kl_ref, zk_kl_null, zk_kl_long, zk_kl_rf, zk_isr_ref, zk_isr_null, zk_isr_rf9, zk_c1_int, zk_c1_ref, zk_c1_null, zk_c1_rf, zk_psh_some, zk_psh_none, zk_nok_int, zk_nok_bool0, zk_nok_bool1, zk_nok_b, zk_fok_0, zk_fok_1, zk_fok_2, zk_fok_n, zk_fok_rf, zb_f, zb_p, zb_i, zb_a, zb_s, zk_nth_0, zk_nth_s, zk_fld_o, zk_put_o, zk_rv_eq, zk_ri_eq, zk_is_o, List.mem_cons, List.not_mem_nil, or_false, false_or, or_true, true_or, and_true, true_and, not_false_iff, not_true_eq_false, true_implies, false_implies, imp_self, implies_true, forall_const, zk_lit, zk_uj_ap, zk_un_ap, zk_un_un, zk_uj_uj, Nat.reduceEqDiff, eq_self, zk_bq, Bool.true_or, Bool.false_or, Nat.le_refl, Nat.zero_add, Nat.add_zero, Nat.reduceAdd, Nat.reduceLeDiff, Nat.le_zero_eq, and_self, and_false, false_and, ite_true, ite_false, Nat.zero_le, List.length_cons, List.length_nil, Option.some.injEq, forall_eq', reduceCtorEq, hJ23, c1, z2, hin, hcl, hcl2, ea, h42, h46, i8, t2, q1, q2, hx, ht, htc, spe_X11_loadNow, hmi2, hsv2, hal, spe_X11_tell, n_succ])
            exact s0
          · have s0 := ih (d + 1) _ _ (by omega) (by rw [a_told, a_tl, if_neg q2, ← List.append_assoc, ← hL]) (hF.app) hK
            rw [ha] at q2 s0
            rw [List.length_append, List.length_singleton] at s0
            (refine hG 900 _ _ _ _ ?_; simp only [r_X11_tellFaults, r_X11_tellFaults_1, r_X11_tellFaults_2, zk_kl_none, zk_kl_int, zk_kl_ref, zk_kl_null, zk_kl_long, zk_kl_rf, zk_isr_ref, zk_isr_null, zk_isr_rf9, zk_c1_int, zk_c1_ref, zk_c1_null, zk_c1_rf, zk_psh_some, zk_psh_none, zk_nok_int, zk_nok_bool0, zk_nok_bool1, zk_nok_b, zk_fok_0, zk_fok_1, zk_fok_2, zk_fok_n, zk_fok_rf, zb_f, zb_p, zb_i, zb_a, zb_s, zk_nth_0, zk_nth_s, zk_fld_o, zk_put_o, zk_rv_eq, zk_ri_eq, zk_is_o, List.mem_cons, List.not_mem_nil, or_false, false_or, or_true, true_or, and_true, true_and, not_false_iff, not_true_eq_false, true_implies, false_implies, imp_self, implies_true, forall_const, zk_lit, zk_uj_ap, zk_un_ap, zk_un_un, zk_uj_uj, Nat.reduceEqDiff, eq_self, zk_bq, Bool.true_or, Bool.false_or, Nat.le_refl, Nat.zero_add, Nat.add_zero, Nat.reduceAdd, Nat.reduceLeDiff, Nat.le_zero_eq, and_self, and_false, false_and, ite_true, ite_false, Nat.zero_le, List.length_cons, List.length_nil, Option.some.injEq, forall_eq', reduceCtorEq, hJ23, c1, z2, hin, hcl, hcl2, ea, h42, h46, i8, t2, q1, q2, hx, ht, htc, spe_X11_loadNow, hmi2, hsv2, hal, spe_X11_tell, n_succ, zk_uj_uj, zk_un_un])
            exact s0
    have loopR : ∀ k, k < 10 → ¬ k = 2 → ¬ k = 8 → ∀ m d F L, d + m = m_nr J → L = a_fl J N k ++ a_told J N k d → FTL F L → (∀ F2 L2 l2, L2 = a_fl J N (k + 1) → FTL F2 L2 → G 11 [some (.ref (zk_ad E 22)), some (.int (nI (k + 1))), l2] [] ((zk_uj J1 22 33 (nI L2.length), zk_un N1 51 F2, Q, O, U), sz, 0, 0)) → G 132 [some (.ref (zk_ad E 22)), some (.int (nI k)), some (.int (nI d))] [] ((zk_uj J1 22 33 (nI L.length), zk_un N1 51 F, Q, O, U), sz, 0, 0) := by
      intro k hk hk2 hk8 m
      have q2 := e2 k hk
      have q8 := e8 k hk
      induction m with
      | zero =>
        intro d F L hd hL hF hK
        have c1 : nI (m_nr J) ≤ nI d := nI_le (by omega) (by omega)
        have hk := hK F L (some (.int (nI d))) (by rw [hL, show d = m_nr J by omega, ← a_fl_r hms hk2 hk8]) hF
        (refine hG 900 _ _ _ _ ?_; simp only [r_X11_tellFaults, r_X11_tellFaults_1, r_X11_tellFaults_2, zk_kl_none, zk_kl_int, zk_kl_ref, zk_kl_null, zk_kl_long, zk_kl_rf, zk_isr_ref, zk_isr_null, zk_isr_rf9, zk_c1_int, zk_c1_ref, zk_c1_null, zk_c1_rf, zk_psh_some, zk_psh_none, zk_nok_int, zk_nok_bool0, zk_nok_bool1, zk_nok_b, zk_fok_0, zk_fok_1, zk_fok_2, zk_fok_n, zk_fok_rf, zb_f, zb_p, zb_i, zb_a, zb_s, zk_nth_0, zk_nth_s, zk_fld_o, zk_put_o, zk_rv_eq, zk_ri_eq, zk_is_o, List.mem_cons, List.not_mem_nil, or_false, false_or, or_true, true_or, and_true, true_and, not_false_iff, not_true_eq_false, true_implies, false_implies, imp_self, implies_true, forall_const, zk_lit, zk_uj_ap, zk_un_ap, zk_un_un, zk_uj_uj, Nat.reduceEqDiff, eq_self, zk_bq, Bool.true_or, Bool.false_or, Nat.le_refl, Nat.zero_add, Nat.add_zero, Nat.reduceAdd, Nat.reduceLeDiff, Nat.le_zero_eq, and_self, and_false, false_and, ite_true, ite_false, Nat.zero_le, List.length_cons, List.length_nil, Option.some.injEq, forall_eq', reduceCtorEq, hJ1, c1, n_succ])
        exact hk
      | succ m ih =>
        intro d F L hd hL hF hK
        have c1 : ¬ nI (m_nr J) ≤ nI d := nI_ge (by omega) (by omega)
        have hin : vp_in (nI d) 20 := n_in (by omega) (by decide)
        have hcl : (nI d).toNatClampNeg = d := n_cl (by omega)
        have hcl2 : (nI k).toNatClampNeg = k := n_cl (by omega)
        have hlen : L.length < 400 := by
          have := a_fl_len J N k
          have := a_told_len J N k d
          rw [hL, List.length_append]; omega
        have skip : a_amt J N k d ≤ 0 → G 132 [some (.ref (zk_ad E 22)), some (.int (nI k)), some (.int (nI (d + 1)))] [] ((zk_uj J1 22 33 (nI L.length), zk_un N1 51 F, Q, O, U), sz, 0, 0) := fun q => ih (d + 1) F L (by omega) (by rw [a_told, a_tl, if_pos q, List.append_nil, hL]) hF hK
        by_cases q1 : N 23 d = -2
        · have s0 := skip (by unfold a_amt; rw [if_neg hk2, if_neg hk8, if_neg (fun w => w.2 q1)]; exact le00)
          (refine hG 900 _ _ _ _ ?_; simp only [r_X11_tellFaults, r_X11_tellFaults_1, r_X11_tellFaults_2, zk_kl_none, zk_kl_int, zk_kl_ref, zk_kl_null, zk_kl_long, zk_kl_rf, zk_isr_ref, zk_isr_null, zk_isr_rf9, zk_c1_int, zk_c1_ref, zk_c1_null, zk_c1_rf, zk_psh_some, zk_psh_none, zk_nok_int, zk_nok_bool0, zk_nok_bool1, zk_nok_b, zk_fok_0, zk_fok_1, zk_fok_2, zk_fok_n, zk_fok_rf, zb_f, zb_p, zb_i, zb_a, zb_s, zk_nth_0, zk_nth_s, zk_fld_o, zk_put_o, zk_rv_eq, zk_ri_eq, zk_is_o, List.mem_cons, List.not_mem_nil, or_false, false_or, or_true, true_or, and_true, true_and, not_false_iff, not_true_eq_false, true_implies, false_implies, imp_self, implies_true, forall_const, zk_lit, zk_uj_ap, zk_un_ap, zk_un_un, zk_uj_uj, Nat.reduceEqDiff, eq_self, zk_bq, Bool.true_or, Bool.false_or, Nat.le_refl, Nat.zero_add, Nat.add_zero, Nat.reduceAdd, Nat.reduceLeDiff, Nat.le_zero_eq, and_self, and_false, false_and, ite_true, ite_false, Nat.zero_le, List.length_cons, List.length_nil, Option.some.injEq, forall_eq', reduceCtorEq, hJ1, c1, hin, hcl, q2, q8, hk2, hk8, h23, q1, n_succ])
          exact s0
        · have ha : a_amt J N k d = a_by J N k d := by unfold a_amt; rw [if_neg hk2, if_neg hk8, if_pos ⟨by omega, q1⟩]
          have hx : ∃ k', k' < 10 ∧ ¬ k' = 2 ∧ ¬ k' = 8 ∧ nI k = nI k' := ⟨k, hk, hk2, hk8, rfl⟩
          have hx2 : ∀ x, ∃ j', j' < m_nr (zk_uj J1 22 33 x) ∧ nI d = nI j' := fun x => ⟨d, by rw [(es x (N1 51)).nr]; omega, rfl⟩
          have ht := tl L hlen
          have htc := tc L hlen
          by_cases q3 : a_amt J N k d ≤ 0
          · have s0 := skip q3
            rw [ha] at q3
            (refine hG 900 _ _ _ _ ?_; simp only [r_X11_tellFaults, r_X11_tellFaults_1, r_X11_tellFaults_2, zk_kl_none, zk_kl_int, zk_kl_ref, zk_kl_null, zk_kl_long, zk_kl_rf, zk_isr_ref, zk_isr_null, zk_isr_rf9, zk_c1_int, zk_c1_ref, zk_c1_null, zk_c1_rf, zk_psh_some, zk_psh_none, zk_nok_int, zk_nok_bool0, zk_nok_bool1, zk_nok_b, zk_fok_0, zk_fok_1, zk_fok_2, zk_fok_n, zk_fok_rf, zb_f, zb_p, zb_i, zb_a, zb_s, zk_nth_0, zk_nth_s, zk_fld_o, zk_put_o, zk_rv_eq, zk_ri_eq, zk_is_o, List.mem_cons, List.not_mem_nil, or_false, false_or, or_true, true_or, and_true, true_and, not_false_iff, not_true_eq_false, true_implies, false_implies, imp_self, implies_true, forall_const, zk_lit, zk_uj_ap, zk_un_ap, zk_un_un, zk_uj_uj, Nat.reduceEqDiff, eq_self, zk_bq, Bool.true_or, Bool.false_or, Nat.le_refl, Nat.zero_add, Nat.add_zero, Nat.reduceAdd, Nat.reduceLeDiff, Nat.le_zero_eq, and_self, and_false, false_and, ite_true, ite_false, Nat.zero_le, List.length_cons, List.length_nil, Option.some.injEq, forall_eq', reduceCtorEq, hJ1, c1, hin, hcl, hcl2, q2, q8, hk2, hk8, h23, q1, q3, hx, hx2, ht, htc, spe_X11_byRoom, hmi2, hsv2, hby, spe_X11_tell, n_succ])
            exact s0
          · have s0 := ih (d + 1) _ _ (by omega) (by rw [a_told, a_tl, if_neg q3, ← List.append_assoc, ← hL]) (hF.app) hK
            rw [ha] at q3 s0
            rw [List.length_append, List.length_singleton] at s0
            (refine hG 900 _ _ _ _ ?_; simp only [r_X11_tellFaults, r_X11_tellFaults_1, r_X11_tellFaults_2, zk_kl_none, zk_kl_int, zk_kl_ref, zk_kl_null, zk_kl_long, zk_kl_rf, zk_isr_ref, zk_isr_null, zk_isr_rf9, zk_c1_int, zk_c1_ref, zk_c1_null, zk_c1_rf, zk_psh_some, zk_psh_none, zk_nok_int, zk_nok_bool0, zk_nok_bool1, zk_nok_b, zk_fok_0, zk_fok_1, zk_fok_2, zk_fok_n, zk_fok_rf, zb_f, zb_p, zb_i, zb_a, zb_s, zk_nth_0, zk_nth_s, zk_fld_o, zk_put_o, zk_rv_eq, zk_ri_eq, zk_is_o, List.mem_cons, List.not_mem_nil, or_false, false_or, or_true, true_or, and_true, true_and, not_false_iff, not_true_eq_false, true_implies, false_implies, imp_self, implies_true, forall_const, zk_lit, zk_uj_ap, zk_un_ap, zk_un_un, zk_uj_uj, Nat.reduceEqDiff, eq_self, zk_bq, Bool.true_or, Bool.false_or, Nat.le_refl, Nat.zero_add, Nat.add_zero, Nat.reduceAdd, Nat.reduceLeDiff, Nat.le_zero_eq, and_self, and_false, false_and, ite_true, ite_false, Nat.zero_le, List.length_cons, List.length_nil, Option.some.injEq, forall_eq', reduceCtorEq, hJ1, c1, hin, hcl, hcl2, q2, q8, hk2, hk8, h23, q1, q3, hx, hx2, ht, htc, spe_X11_byRoom, hmi2, hsv2, hby, spe_X11_tell, n_succ, zk_uj_uj, zk_un_un])
            exact s0
    have outer : ∀ m k F L l2, k + m = 10 → L = a_fl J N k → FTL F L → G 11 [some (.ref (zk_ad E 22)), some (.int (nI k)), l2] [] ((zk_uj J1 22 33 (nI L.length), zk_un N1 51 F, Q, O, U), sz, 0, 0) := by
      intro m
      induction m with
      | zero =>
        intro k F L l2 hk hL hF
        have ek : k = 10 := by omega
        subst ek
        exact fin L F l2 hF hL
      | succ m ih =>
        intro k F L l2 hk hL hF
        have c1 : ¬ (10 : Int32) ≤ nI k := (nI_ge (b := 10) (by omega) (by decide) : ¬ nI 10 ≤ nI k)
        have e0 : (0 : Int32) = nI 0 := rfl
        have go : G 19 [some (.ref (zk_ad E 22)), some (.int (nI k)), some (.int (nI 0))] [] ((zk_uj J1 22 33 (nI L.length), zk_un N1 51 F, Q, O, U), sz, 0, 0) := by
          by_cases q2 : k = 2
          · subst q2
            exact loopD (m_nd J) 0 F L (by omega) (by rw [hL, a_told, List.append_nil]) hF (fun F2 L2 hL2 hF2 => s76 2 (nI L2.length, F2) (by decide) (by decide) (s132 2 (nI L2.length, F2) (by decide) (Or.inl rfl) (fun l2 => ih 3 F2 L2 l2 (by omega) hL2 hF2)))
          · by_cases q8 : k = 8
            · subst q8
              exact s19 8 (nI L.length, F) (by decide) (by decide) (loopS (m_ns J) 0 F L (by omega) (by rw [hL, a_told, List.append_nil]) hF (fun F2 L2 hL2 hF2 => s132 8 (nI L2.length, F2) (by decide) (Or.inr rfl) (fun l2 => ih 9 F2 L2 l2 (by omega) hL2 hF2)))
            · exact s19 k (nI L.length, F) (by omega) q2 (s76 k (nI L.length, F) (by omega) q8 (loopR k (by omega) q2 q8 (m_nr J) 0 F L (by omega) (by rw [hL, a_told, List.append_nil]) hF (fun F2 L2 l2 hL2 hF2 => ih (k + 1) F2 L2 l2 (by omega) hL2 hF2)))
        (refine hG 900 _ _ _ _ ?_; simp only [r_X11_tellFaults, r_X11_tellFaults_1, r_X11_tellFaults_2, zk_kl_none, zk_kl_int, zk_kl_ref, zk_kl_null, zk_kl_long, zk_kl_rf, zk_isr_ref, zk_isr_null, zk_isr_rf9, zk_c1_int, zk_c1_ref, zk_c1_null, zk_c1_rf, zk_psh_some, zk_psh_none, zk_nok_int, zk_nok_bool0, zk_nok_bool1, zk_nok_b, zk_fok_0, zk_fok_1, zk_fok_2, zk_fok_n, zk_fok_rf, zb_f, zb_p, zb_i, zb_a, zb_s, zk_nth_0, zk_nth_s, zk_fld_o, zk_put_o, zk_rv_eq, zk_ri_eq, zk_is_o, List.mem_cons, List.not_mem_nil, or_false, false_or, or_true, true_or, and_true, true_and, not_false_iff, not_true_eq_false, true_implies, false_implies, imp_self, implies_true, forall_const, zk_lit, zk_uj_ap, zk_un_ap, zk_un_un, zk_uj_uj, Nat.reduceEqDiff, eq_self, zk_bq, Bool.true_or, Bool.false_or, Nat.le_refl, Nat.zero_add, Nat.add_zero, Nat.reduceAdd, Nat.reduceLeDiff, Nat.le_zero_eq, and_self, and_false, false_and, ite_true, ite_false, Nat.zero_le, List.length_cons, List.length_nil, Option.some.injEq, forall_eq', reduceCtorEq, c1, e0])
        exact go
    exact outer 10 0 F0 [] none (by omega) rfl (FTL.nil F0)
  (refine hG 900 _ _ _ _ ?_; simp only [r_X11_tellFaults, r_X11_tellFaults_1, r_X11_tellFaults_2, zk_kl_none, zk_kl_int, zk_kl_ref, zk_kl_null, zk_kl_long, zk_kl_rf, zk_isr_ref, zk_isr_null, zk_isr_rf9, zk_c1_int, zk_c1_ref, zk_c1_null, zk_c1_rf, zk_psh_some, zk_psh_none, zk_nok_int, zk_nok_bool0, zk_nok_bool1, zk_nok_b, zk_fok_0, zk_fok_1, zk_fok_2, zk_fok_n, zk_fok_rf, zb_f, zb_p, zb_i, zb_a, zb_s, zk_nth_0, zk_nth_s, zk_fld_o, zk_put_o, zk_rv_eq, zk_ri_eq, zk_is_o, List.mem_cons, List.not_mem_nil, or_false, false_or, or_true, true_or, and_true, true_and, not_false_iff, not_true_eq_false, true_implies, false_implies, imp_self, implies_true, forall_const, zk_lit, zk_uj_ap, zk_un_ap, zk_un_un, zk_uj_uj, Nat.reduceEqDiff, eq_self, zk_bq, Bool.true_or, Bool.false_or, Nat.le_refl, Nat.zero_add, Nat.add_zero, Nat.reduceAdd, Nat.reduceLeDiff, Nat.le_zero_eq, and_self, and_false, false_and, ite_true, ite_false, Nat.zero_le, List.length_cons, List.length_nil, Option.some.injEq, forall_eq', reduceCtorEq, spe_X11_solve])
  refine ⟨hmi, fun J2 N2 hso => ?_⟩
  have k0 := key J2 N2 hso (N2 51)
  rw [zk_un_self N2 51] at k0
  exact k0
theorem ct_X11_tellFaults {l : Launch} (hl : l.stackTraces = false) (E : zk_E) : zk_C l E (zk_VT E) yX11_tellFaults cX11_tellFaults 3 (none) rm_X11_tellFaults (sp_X11_tellFaults E) := by
  refine zk_meth (M := M_X11_tellFaults) (C := C_X11_tellFaults E) hl (by decide +kernel) rfl (fun _ _ => rfl) (zk_VT_ok E) MO_X11_tellFaults TO_X11_tellFaults THo_X11_tellFaults ?_ (vc_X11_tellFaults E)
  exact fun p e s m args below meth c X pc n mc ms sp2 h => by
    have h2 := zk_lka_mem h
    simp only [List.mem_cons, List.not_mem_nil, or_false, Prod.mk.injEq] at h2
    rcases h2 with ⟨rfl, rfl, rfl, rfl, rfl⟩ | ⟨rfl, rfl, rfl, rfl, rfl⟩ | ⟨rfl, rfl, rfl, rfl, rfl⟩ | ⟨rfl, rfl, rfl, rfl, rfl⟩ | ⟨rfl, rfl, rfl, rfl, rfl⟩ | ⟨rfl, rfl, rfl, rfl, rfl⟩ | ⟨rfl, rfl, rfl, rfl, rfl⟩
    · exact zk_coV (idx := 227) X (ct_X11_solve hl E) (List.forall_mem_cons.mpr ⟨zk_wi 1227 (by decide +kernel) rfl, List.forall_mem_cons.mpr ⟨zk_wi 1229 (by decide +kernel) rfl, List.forall_mem_cons.mpr ⟨zk_wp 24 (by decide +kernel) rfl, List.forall_mem_cons.mpr ⟨zk_wi 6 (by decide +kernel) rfl, List.forall_mem_cons.mpr ⟨zk_wi 1230 (by decide +kernel) rfl, fun _ h => absurd h List.not_mem_nil⟩⟩⟩⟩⟩) (fun ci h => by
      have h := Nat.eq_of_beq_eq_true h
      subst h
      exact ⟨_, _, rfl⟩) (by decide +kernel) ⟨by decide, by decide, by decide +kernel⟩ ⟨by decide, by decide⟩
    · exact zk_coV (idx := 248) X (ct_X11_loadNow hl E) (List.forall_mem_cons.mpr ⟨zk_wi 1321 (by decide +kernel) rfl, List.forall_mem_cons.mpr ⟨zk_wi 1323 (by decide +kernel) rfl, List.forall_mem_cons.mpr ⟨zk_wp 41 (by decide +kernel) rfl, List.forall_mem_cons.mpr ⟨zk_wi 6 (by decide +kernel) rfl, List.forall_mem_cons.mpr ⟨zk_wi 1324 (by decide +kernel) rfl, fun _ h => absurd h List.not_mem_nil⟩⟩⟩⟩⟩) (fun ci h => by
      have h := Nat.eq_of_beq_eq_true h
      subst h
      exact ⟨_, _, rfl⟩) (by decide +kernel) ⟨by decide, by decide, by decide +kernel⟩ ⟨by decide, by decide⟩
    · exact zk_coV (idx := 281) X (ct_X11_tell hl E) (List.forall_mem_cons.mpr ⟨zk_wi 1377 (by decide +kernel) rfl, List.forall_mem_cons.mpr ⟨zk_wi 1379 (by decide +kernel) rfl, List.forall_mem_cons.mpr ⟨zk_wp 50 (by decide +kernel) rfl, List.forall_mem_cons.mpr ⟨zk_wi 6 (by decide +kernel) rfl, List.forall_mem_cons.mpr ⟨zk_wi 1380 (by decide +kernel) rfl, fun _ h => absurd h List.not_mem_nil⟩⟩⟩⟩⟩) (fun ci h => by
      have h := Nat.eq_of_beq_eq_true h
      subst h
      exact ⟨_, _, rfl⟩) (by decide +kernel) ⟨by decide, by decide, by decide +kernel⟩ ⟨by decide, by decide⟩
    · exact zk_coV (idx := 248) X (ct_X11_loadNow hl E) (List.forall_mem_cons.mpr ⟨zk_wi 1321 (by decide +kernel) rfl, List.forall_mem_cons.mpr ⟨zk_wi 1323 (by decide +kernel) rfl, List.forall_mem_cons.mpr ⟨zk_wp 41 (by decide +kernel) rfl, List.forall_mem_cons.mpr ⟨zk_wi 6 (by decide +kernel) rfl, List.forall_mem_cons.mpr ⟨zk_wi 1324 (by decide +kernel) rfl, fun _ h => absurd h List.not_mem_nil⟩⟩⟩⟩⟩) (fun ci h => by
      have h := Nat.eq_of_beq_eq_true h
      subst h
      exact ⟨_, _, rfl⟩) (by decide +kernel) ⟨by decide, by decide, by decide +kernel⟩ ⟨by decide, by decide⟩
    · exact zk_coV (idx := 281) X (ct_X11_tell hl E) (List.forall_mem_cons.mpr ⟨zk_wi 1377 (by decide +kernel) rfl, List.forall_mem_cons.mpr ⟨zk_wi 1379 (by decide +kernel) rfl, List.forall_mem_cons.mpr ⟨zk_wp 50 (by decide +kernel) rfl, List.forall_mem_cons.mpr ⟨zk_wi 6 (by decide +kernel) rfl, List.forall_mem_cons.mpr ⟨zk_wi 1380 (by decide +kernel) rfl, fun _ h => absurd h List.not_mem_nil⟩⟩⟩⟩⟩) (fun ci h => by
      have h := Nat.eq_of_beq_eq_true h
      subst h
      exact ⟨_, _, rfl⟩) (by decide +kernel) ⟨by decide, by decide, by decide +kernel⟩ ⟨by decide, by decide⟩
    · exact zk_coV (idx := 285) X (ct_X11_byRoom hl E) (List.forall_mem_cons.mpr ⟨zk_wi 1381 (by decide +kernel) rfl, List.forall_mem_cons.mpr ⟨zk_wi 1383 (by decide +kernel) rfl, List.forall_mem_cons.mpr ⟨zk_wp 51 (by decide +kernel) rfl, List.forall_mem_cons.mpr ⟨zk_wi 6 (by decide +kernel) rfl, List.forall_mem_cons.mpr ⟨zk_wi 1384 (by decide +kernel) rfl, fun _ h => absurd h List.not_mem_nil⟩⟩⟩⟩⟩) (fun ci h => by
      have h := Nat.eq_of_beq_eq_true h
      subst h
      exact ⟨_, _, rfl⟩) (by decide +kernel) ⟨by decide, by decide, by decide +kernel⟩ ⟨by decide, by decide⟩
    · exact zk_coV (idx := 281) X (ct_X11_tell hl E) (List.forall_mem_cons.mpr ⟨zk_wi 1377 (by decide +kernel) rfl, List.forall_mem_cons.mpr ⟨zk_wi 1379 (by decide +kernel) rfl, List.forall_mem_cons.mpr ⟨zk_wp 50 (by decide +kernel) rfl, List.forall_mem_cons.mpr ⟨zk_wi 6 (by decide +kernel) rfl, List.forall_mem_cons.mpr ⟨zk_wi 1380 (by decide +kernel) rfl, fun _ h => absurd h List.not_mem_nil⟩⟩⟩⟩⟩) (fun ci h => by
      have h := Nat.eq_of_beq_eq_true h
      subst h
      exact ⟨_, _, rfl⟩) (by decide +kernel) ⟨by decide, by decide, by decide +kernel⟩ ⟨by decide, by decide⟩
def sp_X11_faultsNow (E : zk_E) : zk_Sp zk_S := fun av σ sz P PX => match av with
  | [.ref a] => a = zk_ad E 22 ∧ MI σ.1 σ.2.1 ∧ ∀ J2 N2, FO σ.1 J2 σ.2.1 N2 → P (some (.int (nI (a_fl σ.1 σ.2.1 10).length))) (J2, N2, σ.2.2) sz
  | _ => False
theorem spe_X11_faultsNow (E : zk_E) (a : Nat) (σ : zk_S) (sz : Nat) (P : zk_P zk_S) (PX : zk_X zk_S) : sp_X11_faultsNow E [.ref a] σ sz P PX = (a = zk_ad E 22 ∧ MI σ.1 σ.2.1 ∧ ∀ J2 N2, FO σ.1 J2 σ.2.1 N2 → P (some (.int (nI (a_fl σ.1 σ.2.1 10).length))) (J2, N2, σ.2.2) sz) := propext Iff.rfl
def C_X11_faultsNow (E : zk_E) : zk_Cl zk_S := zk_lka [(1, 1, 0, 0, zk_rv (zk_VT E) (fun ci => Nat.beq ci 10) (sp_X11_tellFaults E))]
theorem r_X11_faultsNow (E : zk_E) (P : zk_P zk_S) (PX : zk_X zk_S) (K : Nat → zk_L → List Value → zk_W zk_S → Prop) : (∀ (n : Nat)  (y0 : Value) (r : List Value) (σ : zk_S) (sz k c : Nat), zk_run E (zk_VT E) M_X11_faultsNow (C_X11_faultsNow E) P PX K (n + 1) 0 [some y0] r (σ, sz, k, c) = (zk_isr y0 ∧ zk_run E (zk_VT E) M_X11_faultsNow (C_X11_faultsNow E) P PX K n 1 [some y0] (y0 :: r) (σ, sz, k, c))) ∧
  (∀ (n : Nat) (l0 : Option Value) (v0 : Value)  (σ : zk_S) (sz k c : Nat), zk_run E (zk_VT E) M_X11_faultsNow (C_X11_faultsNow E) P PX K (n + 1) 1 [l0] [v0] (σ, sz, k, c) = (k + 0 ≤ 0 ∧ c + 0 ≤ 0 ∧ (zk_rv (zk_VT E) (fun ci => Nat.beq ci 10) (sp_X11_tellFaults E)) [v0] σ sz (fun v s2 z2 => zk_run E (zk_VT E) M_X11_faultsNow (C_X11_faultsNow E) P PX K n 4 [l0] (zk_psh v []) (s2, z2, k + 0, c + 0)) (fun X s2 z2 => PX X s2 z2))) ∧
  (∀ (n : Nat)  (y0 : Value) (r : List Value) (σ : zk_S) (sz k c : Nat), zk_run E (zk_VT E) M_X11_faultsNow (C_X11_faultsNow E) P PX K (n + 1) 4 [some y0] r (σ, sz, k, c) = (zk_isr y0 ∧ zk_run E (zk_VT E) M_X11_faultsNow (C_X11_faultsNow E) P PX K n 5 [some y0] (y0 :: r) (σ, sz, k, c))) ∧
  (∀ (n : Nat) (l0 : Option Value) (a : Nat) (r : List Value) (σ : zk_S) (sz k c : Nat), zk_run E (zk_VT E) M_X11_faultsNow (C_X11_faultsNow E) P PX K (n + 1) 5 [l0] (.ref a :: r) (σ, sz, k, c) = zk_fld (zk_view E σ a) [10] 33 (fun v => zk_run E (zk_VT E) M_X11_faultsNow (C_X11_faultsNow E) P PX K n 8 [l0] (v :: r) (σ, sz, k, c))) ∧
  (∀ (n : Nat) (l0 : Option Value) (x : Int32)  (σ : zk_S) (sz k c : Nat), zk_run E (zk_VT E) M_X11_faultsNow (C_X11_faultsNow E) P PX K (n + 1) 8 [l0] [.int x] (σ, sz, k, c) = (zk_nok (some (.int)) x ∧ P (some (.int x)) σ sz ∧ k ≤ 0 ∧ c ≤ 0)) ∧
  (∀ (n : Nat) (l0 : Option Value) (r : List Value) (w : zk_W zk_S), zk_go E (zk_VT E) M_X11_faultsNow (C_X11_faultsNow E) P PX K n 0 [l0] r w = zk_run E (zk_VT E) M_X11_faultsNow (C_X11_faultsNow E) P PX K (n + 1) 0 [l0] r w) := ⟨by intros; rfl, by intros; rfl, by intros; rfl, by intros; rfl, by intros; rfl, by intros; rfl⟩
theorem vc_X11_faultsNow (E : zk_E) : zk_VC E (zk_VT E) M_X11_faultsNow (C_X11_faultsNow E) 1 (sp_X11_faultsNow E) := by
  intro av σ sz P PX h
  obtain ⟨J, N, Q, O, U⟩ := σ
  unfold sp_X11_faultsNow at h
  split at h
  case h_2 => exact h.elim
  rename_i a0
  obtain ⟨rfl, h⟩ := h
  refine ⟨Nat.le_of_ble_eq_true rfl, fun G hG => ?_⟩
  change G 0 [some (.ref (zk_ad E 22))] [] ((J, N, Q, O, U), sz, 0, 0)
  try dsimp only at h
  obtain ⟨hmi, h⟩ := h
  (refine hG 900 _ _ _ _ ?_; simp only [r_X11_faultsNow, zk_kl_none, zk_kl_int, zk_kl_ref, zk_kl_null, zk_kl_long, zk_kl_rf, zk_isr_ref, zk_isr_null, zk_isr_rf9, zk_c1_int, zk_c1_ref, zk_c1_null, zk_c1_rf, zk_psh_some, zk_psh_none, zk_nok_int, zk_nok_bool0, zk_nok_bool1, zk_nok_b, zk_fok_0, zk_fok_1, zk_fok_2, zk_fok_n, zk_fok_rf, zb_f, zb_p, zb_i, zb_a, zb_s, zk_nth_0, zk_nth_s, zk_fld_o, zk_put_o, zk_rv_eq, zk_ri_eq, zk_is_o, List.mem_cons, List.not_mem_nil, or_false, false_or, or_true, true_or, and_true, true_and, not_false_iff, not_true_eq_false, true_implies, false_implies, imp_self, implies_true, forall_const, zk_lit, zk_uj_ap, zk_un_ap, zk_un_un, zk_uj_uj, Nat.reduceEqDiff, eq_self, zk_bq, Bool.true_or, Bool.false_or, Nat.le_refl, Nat.zero_add, Nat.add_zero, Nat.reduceAdd, Nat.reduceLeDiff, Nat.le_zero_eq, and_self, and_false, false_and, ite_true, ite_false, Nat.zero_le, List.length_cons, List.length_nil, Option.some.injEq, forall_eq', reduceCtorEq, spe_X11_tellFaults])
  refine ⟨hmi, fun J2 N2 hfo => ?_⟩
  have h33 := hfo.2.2.2.1
  simp only [r_X11_faultsNow, zk_kl_none, zk_kl_int, zk_kl_ref, zk_kl_null, zk_kl_long, zk_kl_rf, zk_isr_ref, zk_isr_null, zk_isr_rf9, zk_c1_int, zk_c1_ref, zk_c1_null, zk_c1_rf, zk_psh_some, zk_psh_none, zk_nok_int, zk_nok_bool0, zk_nok_bool1, zk_nok_b, zk_fok_0, zk_fok_1, zk_fok_2, zk_fok_n, zk_fok_rf, zb_f, zb_p, zb_i, zb_a, zb_s, zk_nth_0, zk_nth_s, zk_fld_o, zk_put_o, zk_rv_eq, zk_ri_eq, zk_is_o, List.mem_cons, List.not_mem_nil, or_false, false_or, or_true, true_or, and_true, true_and, not_false_iff, not_true_eq_false, true_implies, false_implies, imp_self, implies_true, forall_const, zk_lit, zk_uj_ap, zk_un_ap, zk_un_un, zk_uj_uj, Nat.reduceEqDiff, eq_self, zk_bq, Bool.true_or, Bool.false_or, Nat.le_refl, Nat.zero_add, Nat.add_zero, Nat.reduceAdd, Nat.reduceLeDiff, Nat.le_zero_eq, and_self, and_false, false_and, ite_true, ite_false, Nat.zero_le, List.length_cons, List.length_nil, Option.some.injEq, forall_eq', reduceCtorEq, h33]
  exact h J2 N2 hfo
theorem ct_X11_faultsNow {l : Launch} (hl : l.stackTraces = false) (E : zk_E) : zk_C l E (zk_VT E) yX11_faultsNow cX11_faultsNow 1 (some (.int)) rm_X11_faultsNow (sp_X11_faultsNow E) := by
  refine zk_meth (M := M_X11_faultsNow) (C := C_X11_faultsNow E) hl (by decide +kernel) rfl (fun _ _ => rfl) (zk_VT_ok E) MO_X11_faultsNow TO_X11_faultsNow THo_X11_faultsNow ?_ (vc_X11_faultsNow E)
  exact fun p e s m args below meth c X pc n mc ms sp2 h => by
    have h2 := zk_lka_mem h
    simp only [List.mem_cons, List.not_mem_nil, or_false, Prod.mk.injEq] at h2
    rcases h2 with ⟨rfl, rfl, rfl, rfl, rfl⟩
    exact zk_coV (idx := 288) X (ct_X11_tellFaults hl E) (List.forall_mem_cons.mpr ⟨zk_wi 1373 (by decide +kernel) rfl, List.forall_mem_cons.mpr ⟨zk_wi 1375 (by decide +kernel) rfl, List.forall_mem_cons.mpr ⟨zk_wp 49 (by decide +kernel) rfl, List.forall_mem_cons.mpr ⟨zk_wi 6 (by decide +kernel) rfl, List.forall_mem_cons.mpr ⟨zk_wi 1376 (by decide +kernel) rfl, fun _ h => absurd h List.not_mem_nil⟩⟩⟩⟩⟩) (fun ci h => by
      have h := Nat.eq_of_beq_eq_true h
      subst h
      exact ⟨_, _, rfl⟩) (by decide +kernel) ⟨by decide, by decide, by decide +kernel⟩ ⟨by decide, by decide⟩
theorem FO.qe {J J1 J2 N N1 N2 : Nat → Nat → Int32} {t : Int32} (h : QE J J1 N N1 t) (h2 : FO J1 J2 N1 N2) : QE J J2 N N2 t := ⟨h.1.trans h2.1, h2.2.1.trans h.2⟩
def a_faults (J N : Nat → Nat → Int32) : Nat := (a_fl J N 10).length
theorem ES.faults {J J2 N N2 : Nat → Nat → Int32} (h : ES J J2 N N2) : a_faults J2 N2 = a_faults J N := by unfold a_faults; rw [h.fl]
def sp_X11_faults (E : zk_E) : zk_Sp zk_S := fun av σ sz P PX => match av with
  | [.ref a] => a = zk_ad E 22 ∧ MI σ.1 σ.2.1 ∧ ZQ σ sz 0 (some (.int (nI (a_faults σ.1 σ.2.1)))) P
  | _ => False
theorem spe_X11_faults (E : zk_E) (a : Nat) (σ : zk_S) (sz : Nat) (P : zk_P zk_S) (PX : zk_X zk_S) : sp_X11_faults E [.ref a] σ sz P PX = (a = zk_ad E 22 ∧ MI σ.1 σ.2.1 ∧ ZQ σ sz 0 (some (.int (nI (a_faults σ.1 σ.2.1)))) P) := propext Iff.rfl
def C_X11_faults (E : zk_E) : zk_Cl zk_S := zk_lka [(2, 1, 0, 0, zk_rv (zk_VT E) (fun ci => Nat.beq ci 10) (sp_X11_faultsNow E)), (5, 2, 0, 0, zk_rv (zk_VT E) (fun ci => Nat.beq ci 10) (sp_X11_ok E))]
theorem r_X11_faults (E : zk_E) (P : zk_P zk_S) (PX : zk_X zk_S) (K : Nat → zk_L → List Value → zk_W zk_S → Prop) : (∀ (n : Nat)  (y0 : Value) (r : List Value) (σ : zk_S) (sz k c : Nat), zk_run E (zk_VT E) M_X11_faults (C_X11_faults E) P PX K (n + 1) 0 [some y0] r (σ, sz, k, c) = (zk_isr y0 ∧ zk_run E (zk_VT E) M_X11_faults (C_X11_faults E) P PX K n 1 [some y0] (y0 :: r) (σ, sz, k, c))) ∧
  (∀ (n : Nat)  (y0 : Value) (r : List Value) (σ : zk_S) (sz k c : Nat), zk_run E (zk_VT E) M_X11_faults (C_X11_faults E) P PX K (n + 1) 1 [some y0] r (σ, sz, k, c) = (zk_isr y0 ∧ zk_run E (zk_VT E) M_X11_faults (C_X11_faults E) P PX K n 2 [some y0] (y0 :: r) (σ, sz, k, c))) ∧
  (∀ (n : Nat) (l0 : Option Value) (v0 : Value) (v1 : Value)  (σ : zk_S) (sz k c : Nat), zk_run E (zk_VT E) M_X11_faults (C_X11_faults E) P PX K (n + 1) 2 [l0] [v0, v1] (σ, sz, k, c) = (k + 0 ≤ 0 ∧ c + 0 ≤ 0 ∧ (zk_rv (zk_VT E) (fun ci => Nat.beq ci 10) (sp_X11_faultsNow E)) [v0] σ sz (fun v s2 z2 => zk_run E (zk_VT E) M_X11_faults (C_X11_faults E) P PX K n 5 [l0] (zk_psh v [v1]) (s2, z2, k + 0, c + 0)) (fun X s2 z2 => PX X s2 z2))) ∧
  (∀ (n : Nat) (l0 : Option Value) (v0 : Value) (v1 : Value)  (σ : zk_S) (sz k c : Nat), zk_run E (zk_VT E) M_X11_faults (C_X11_faults E) P PX K (n + 1) 5 [l0] [v0, v1] (σ, sz, k, c) = (k + 0 ≤ 0 ∧ c + 0 ≤ 0 ∧ (zk_rv (zk_VT E) (fun ci => Nat.beq ci 10) (sp_X11_ok E)) [v1, v0] σ sz (fun v s2 z2 => zk_run E (zk_VT E) M_X11_faults (C_X11_faults E) P PX K n 8 [l0] (zk_psh v []) (s2, z2, k + 0, c + 0)) (fun X s2 z2 => PX X s2 z2))) ∧
  (∀ (n : Nat) (l0 : Option Value) (x : Int32)  (σ : zk_S) (sz k c : Nat), zk_run E (zk_VT E) M_X11_faults (C_X11_faults E) P PX K (n + 1) 8 [l0] [.int x] (σ, sz, k, c) = (zk_nok (some (.int)) x ∧ P (some (.int x)) σ sz ∧ k ≤ 0 ∧ c ≤ 0)) ∧
  (∀ (n : Nat) (l0 : Option Value) (r : List Value) (w : zk_W zk_S), zk_go E (zk_VT E) M_X11_faults (C_X11_faults E) P PX K n 0 [l0] r w = zk_run E (zk_VT E) M_X11_faults (C_X11_faults E) P PX K (n + 1) 0 [l0] r w) := ⟨by intros; rfl, by intros; rfl, by intros; rfl, by intros; rfl, by intros; rfl, by intros; rfl⟩
theorem vc_X11_faults (E : zk_E) : zk_VC E (zk_VT E) M_X11_faults (C_X11_faults E) 1 (sp_X11_faults E) := by
  intro av σ sz P PX h
  obtain ⟨J, N, Q, O, U⟩ := σ
  unfold sp_X11_faults at h
  split at h
  case h_2 => exact h.elim
  rename_i a0
  obtain ⟨rfl, h⟩ := h
  refine ⟨Nat.le_of_ble_eq_true rfl, fun G hG => ?_⟩
  change G 0 [some (.ref (zk_ad E 22))] [] ((J, N, Q, O, U), sz, 0, 0)
  try dsimp only at h
  obtain ⟨hmi, h⟩ := h
  (refine hG 900 _ _ _ _ ?_; simp only [r_X11_faults, zk_kl_none, zk_kl_int, zk_kl_ref, zk_kl_null, zk_kl_long, zk_kl_rf, zk_isr_ref, zk_isr_null, zk_isr_rf9, zk_c1_int, zk_c1_ref, zk_c1_null, zk_c1_rf, zk_psh_some, zk_psh_none, zk_nok_int, zk_nok_bool0, zk_nok_bool1, zk_nok_b, zk_fok_0, zk_fok_1, zk_fok_2, zk_fok_n, zk_fok_rf, zb_f, zb_p, zb_i, zb_a, zb_s, zk_nth_0, zk_nth_s, zk_fld_o, zk_put_o, zk_rv_eq, zk_ri_eq, zk_is_o, List.mem_cons, List.not_mem_nil, or_false, false_or, or_true, true_or, and_true, true_and, not_false_iff, not_true_eq_false, true_implies, false_implies, imp_self, implies_true, forall_const, zk_lit, zk_uj_ap, zk_un_ap, zk_un_un, zk_uj_uj, Nat.reduceEqDiff, eq_self, zk_bq, Bool.true_or, Bool.false_or, Nat.le_refl, Nat.zero_add, Nat.add_zero, Nat.reduceAdd, Nat.reduceLeDiff, Nat.le_zero_eq, and_self, and_false, false_and, ite_true, ite_false, Nat.zero_le, List.length_cons, List.length_nil, Option.some.injEq, forall_eq', reduceCtorEq, spe_X11_faultsNow])
  refine ⟨hmi, fun J2 N2 hfo => ?_⟩
  simp only [r_X11_faults, zk_kl_none, zk_kl_int, zk_kl_ref, zk_kl_null, zk_kl_long, zk_kl_rf, zk_isr_ref, zk_isr_null, zk_isr_rf9, zk_c1_int, zk_c1_ref, zk_c1_null, zk_c1_rf, zk_psh_some, zk_psh_none, zk_nok_int, zk_nok_bool0, zk_nok_bool1, zk_nok_b, zk_fok_0, zk_fok_1, zk_fok_2, zk_fok_n, zk_fok_rf, zb_f, zb_p, zb_i, zb_a, zb_s, zk_nth_0, zk_nth_s, zk_fld_o, zk_put_o, zk_rv_eq, zk_ri_eq, zk_is_o, List.mem_cons, List.not_mem_nil, or_false, false_or, or_true, true_or, and_true, true_and, not_false_iff, not_true_eq_false, true_implies, false_implies, imp_self, implies_true, forall_const, zk_lit, zk_uj_ap, zk_un_ap, zk_un_un, zk_uj_uj, Nat.reduceEqDiff, eq_self, zk_bq, Bool.true_or, Bool.false_or, Nat.le_refl, Nat.zero_add, Nat.add_zero, Nat.reduceAdd, Nat.reduceLeDiff, Nat.le_zero_eq, and_self, and_false, false_and, ite_true, ite_false, Nat.zero_le, List.length_cons, List.length_nil, Option.some.injEq, forall_eq', reduceCtorEq, spe_X11_ok]
  exact h _ _ _ _ ⟨hfo.1.uj (by decide), by unfold zk_uj; rw [if_pos ⟨rfl, rfl⟩]⟩ (fun _ _ => rfl) (Nat.le_refl _)
theorem ct_X11_faults {l : Launch} (hl : l.stackTraces = false) (E : zk_E) : zk_C l E (zk_VT E) yX11_faults cX11_faults 1 (some (.int)) rm_X11_faults (sp_X11_faults E) := by
  refine zk_meth (M := M_X11_faults) (C := C_X11_faults E) hl (by decide +kernel) rfl (fun _ _ => rfl) (zk_VT_ok E) MO_X11_faults TO_X11_faults THo_X11_faults ?_ (vc_X11_faults E)
  exact fun p e s m args below meth c X pc n mc ms sp2 h => by
    have h2 := zk_lka_mem h
    simp only [List.mem_cons, List.not_mem_nil, or_false, Prod.mk.injEq] at h2
    rcases h2 with ⟨rfl, rfl, rfl, rfl, rfl⟩ | ⟨rfl, rfl, rfl, rfl, rfl⟩
    · exact zk_coV (idx := 291) X (ct_X11_faultsNow hl E) (List.forall_mem_cons.mpr ⟨zk_wi 1369 (by decide +kernel) rfl, List.forall_mem_cons.mpr ⟨zk_wi 1371 (by decide +kernel) rfl, List.forall_mem_cons.mpr ⟨zk_wp 48 (by decide +kernel) rfl, List.forall_mem_cons.mpr ⟨zk_wi 6 (by decide +kernel) rfl, List.forall_mem_cons.mpr ⟨zk_wi 1372 (by decide +kernel) rfl, fun _ h => absurd h List.not_mem_nil⟩⟩⟩⟩⟩) (fun ci h => by
      have h := Nat.eq_of_beq_eq_true h
      subst h
      exact ⟨_, _, rfl⟩) (by decide +kernel) ⟨by decide, by decide, by decide +kernel⟩ ⟨by decide, by decide⟩
    · exact zk_coV (idx := 180) X (ct_X11_ok hl E) (List.forall_mem_cons.mpr ⟨zk_wi 1199 (by decide +kernel) rfl, List.forall_mem_cons.mpr ⟨zk_wi 1201 (by decide +kernel) rfl, List.forall_mem_cons.mpr ⟨zk_wp 22 (by decide +kernel) rfl, List.forall_mem_cons.mpr ⟨zk_wi 6 (by decide +kernel) rfl, List.forall_mem_cons.mpr ⟨zk_wi 1202 (by decide +kernel) rfl, fun _ h => absurd h List.not_mem_nil⟩⟩⟩⟩⟩) (fun ci h => by
      have h := Nat.eq_of_beq_eq_true h
      subst h
      exact ⟨_, _, rfl⟩) (by decide +kernel) ⟨by decide, by decide, by decide +kernel⟩ ⟨by decide, by decide⟩

