/-! numbers behind the law's questions: faults, ways, loads -/
def FRel (p q : Int32 × Int32 × Int32) : Prop := ∃ r0 i0 r1 i1 : Nat, r0 < 10 ∧ i0 < 40 ∧ r1 < 10 ∧ i1 < 40 ∧ p.1 = nI r0 ∧ p.2.1 = nI i0 ∧ q.1 = nI r1 ∧ q.2.1 = nI i1 ∧ (r0 < r1 ∨ (r0 = r1 ∧ i0 < i1))
section LN
variable {J N : Nat → Nat → Int32}
theorem a_tl_mem {rule i : Nat} {p : Int32 × Int32 × Int32} (h : p ∈ a_tl J N rule i) : p = (nI rule, nI i, a_amt J N rule i) ∧ ¬ a_amt J N rule i ≤ 0 := by
  unfold a_tl at h
  split at h
  · exact absurd h List.not_mem_nil
  · rename_i w
    exact ⟨List.mem_singleton.mp h, w⟩
theorem a_told_mem {rule : Nat} {p : Int32 × Int32 × Int32} : ∀ {n}, p ∈ a_told J N rule n → ∃ i, i < n ∧ p = (nI rule, nI i, a_amt J N rule i) ∧ ¬ a_amt J N rule i ≤ 0
  | 0, h => absurd h List.not_mem_nil
  | n + 1, h => by
    rcases List.mem_append.mp h with h | h
    · obtain ⟨i, h1, h2⟩ := a_told_mem h
      exact ⟨i, by omega, h2⟩
    · exact ⟨n, Nat.lt_succ_self n, a_tl_mem h⟩
theorem a_num_le (rule : Nat) : a_num rule ≤ 40 := by unfold a_num; split <;> (try split) <;> omega
theorem a_fl_mem {p : Int32 × Int32 × Int32} : ∀ {n}, p ∈ a_fl J N n → ∃ rule i, rule < n ∧ i < 40 ∧ p = (nI rule, nI i, a_amt J N rule i) ∧ ¬ a_amt J N rule i ≤ 0
  | 0, h => absurd h List.not_mem_nil
  | n + 1, h => by
    rcases List.mem_append.mp h with h | h
    · obtain ⟨r, i, h1, h2⟩ := a_fl_mem h
      exact ⟨r, i, by omega, h2⟩
    · obtain ⟨i, h1, h2⟩ := a_told_mem h
      exact ⟨n, i, Nat.lt_succ_self n, Nat.lt_of_lt_of_le h1 (a_num_le n), h2⟩
theorem a_told_pw {rule : Nat} (hr : rule < 10) : ∀ {n}, n ≤ 40 → (a_told J N rule n).Pairwise FRel
  | 0, _ => List.Pairwise.nil
  | n + 1, h => by
    rw [a_told]
    refine List.pairwise_append.mpr ⟨a_told_pw hr (by omega), ?_, ?_⟩
    · unfold a_tl
      split
      · exact List.Pairwise.nil
      · exact List.pairwise_singleton _ _
    · intro a ha b hb
      obtain ⟨i, h1, rfl, -⟩ := a_told_mem ha
      obtain ⟨rfl, -⟩ := a_tl_mem hb
      exact ⟨rule, i, rule, n, hr, by omega, hr, by omega, rfl, rfl, rfl, rfl, Or.inr ⟨rfl, h1⟩⟩
theorem a_fl_pw : ∀ {n}, n ≤ 10 → (a_fl J N n).Pairwise FRel
  | 0, _ => List.Pairwise.nil
  | n + 1, h => by
    rw [a_fl]
    refine List.pairwise_append.mpr ⟨a_fl_pw (by omega), a_told_pw (by omega) (a_num_le n), ?_⟩
    intro a ha b hb
    obtain ⟨r, i, h1, h2, rfl, -⟩ := a_fl_mem ha
    obtain ⟨i2, h3, rfl, -⟩ := a_told_mem hb
    have := a_num_le n
    exact ⟨r, i, n, i2, by omega, h2, by omega, by omega, rfl, rfl, rfl, rfl, Or.inl h1⟩
theorem fq_at {L : zk_F3} {i : Nat} (h : i < L.length) : ∃ p, p ∈ L ∧ L[i]? = some p ∧ fqL L i 0 = p.1 ∧ fqL L i 1 = p.2.1 ∧ fqL L i 2 = p.2.2 := by
  refine ⟨L[i], List.getElem_mem h, List.getElem?_eq_getElem h, ?_, ?_, ?_⟩ <;> (unfold fqL; rw [List.getElem?_eq_getElem h]; rfl)
theorem ln_fq {i : Nat} (hi : i < a_faults J N) : ∃ p, p ∈ a_fl J N 10 ∧ (a_fl J N 10)[i]? = some p ∧ a_fq J N i 0 = p.1 ∧ a_fq J N i 1 = p.2.1 ∧ a_fq J N i 2 = p.2.2 := by
  unfold a_faults at hi
  unfold a_fq
  exact fq_at hi
theorem ln_how {i : Nat} (hi : i < a_faults J N) : ¬ a_fq J N i 2 < 1 := by
  obtain ⟨p, h1, -, -, -, h2⟩ := ln_fq hi
  obtain ⟨r, k, -, -, rfl, h3⟩ := a_fl_mem h1
  rw [h2]
  intro w
  apply h3
  have w : a_amt J N r k < 1 := w
  rw [Int32.lt_iff_toInt_lt] at w
  rw [Int32.le_iff_toInt_le]
  have e1 : (1 : Int32).toInt = 1 := by decide
  have e0 : (0 : Int32).toInt = 0 := by decide
  omega
theorem ln_ord {i : Nat} (hi : i + 1 < a_faults J N) : ∃ r0 i0 r1 i1 : Nat, r0 < 10 ∧ i0 < 40 ∧ r1 < 10 ∧ i1 < 40 ∧ a_fq J N i 0 = nI r0 ∧ a_fq J N i 1 = nI i0 ∧ a_fq J N (i + 1) 0 = nI r1 ∧ a_fq J N (i + 1) 1 = nI i1 ∧ (r0 < r1 ∨ (r0 = r1 ∧ i0 < i1)) := by
  have h2 : i + 1 < (a_fl J N 10).length := hi
  have h1 : i < (a_fl J N 10).length := by omega
  obtain ⟨p, -, p1, p2, p3, -⟩ := ln_fq (J := J) (N := N) (i := i) h1
  obtain ⟨q, -, q1, q2, q3, -⟩ := ln_fq (J := J) (N := N) (i := i + 1) h2
  rw [List.getElem?_eq_getElem h1] at p1
  rw [List.getElem?_eq_getElem h2] at q1
  have e1 := Option.some.inj p1
  have e2 := Option.some.inj q1
  have key := (List.pairwise_iff_getElem.mp (a_fl_pw (J := J) (N := N) (Nat.le_refl 10))) i (i + 1) h1 h2 (Nat.lt_succ_self i)
  rw [e1, e2] at key
  rw [p2, p3, q2, q3]
  obtain ⟨r0, i0, r1, i1, a1, a2, a3, a4, b1, b2, b3, b4, b5⟩ := key
  exact ⟨r0, i0, r1, i1, a1, a2, a3, a4, b1, b2, b3, b4, b5⟩
theorem sumN_one {n r : Nat} (hr : r < n) : sumN (fun k => if k = r then 1 else 0) n = 1 := by
  induction n with
  | zero => omega
  | succ n ih =>
    rw [sumN]
    rcases Nat.lt_or_ge r n with q | q
    · rw [ih q, if_neg (by omega)]
    · have e : r = n := by omega
      subst e
      rw [if_pos rfl, sumN_congr (g := fun _ => 0) (fun k hk => if_neg (by omega))]
      have z : ∀ m, sumN (fun _ => 0) m = 0 := by
        intro m
        induction m with
        | zero => rfl
        | succ m ih => rw [sumN, ih]
      rw [z]
theorem sumN_add (f g : Nat → Nat) : ∀ n, sumN (fun k => f k + g k) n = sumN f n + sumN g n
  | 0 => rfl
  | n + 1 => by rw [sumN, sumN, sumN, sumN_add f g n]; omega
theorem ln_cnt {n : Nat} (hn : n < 1000) : ∀ L : zk_F3, (∀ p ∈ L, ∃ r, r < n ∧ p.1 = nI r) → sumN (fun k => L.countP (fun p => decide (p.1 = nI k))) n = L.length
  | [], _ => by
    have z : ∀ m, sumN (fun _ => 0) m = 0 := by
      intro m
      induction m with
      | zero => rfl
      | succ m ih => rw [sumN, ih]
    exact z n
  | p :: L, h => by
    obtain ⟨r, hr, hp⟩ := h p List.mem_cons_self
    have ih := ln_cnt hn L (fun q hq => h q (List.mem_cons_of_mem _ hq))
    rw [List.length_cons, ← ih, ← sumN_one hr, ← sumN_add]
    refine sumN_congr fun k hk => ?_
    rw [List.countP_cons, hp]
    by_cases q : k = r
    · subst q
      rw [if_pos rfl, if_pos (decide_eq_true rfl)]
    · rw [if_neg q, if_neg (by rw [decide_eq_true_iff, n_inj (by omega) (by omega)]; omega)]
theorem ln_brk : sumN (fun k => a_brk J N (nI k)) 10 = a_faults J N := ln_cnt (by decide) _ (fun p hp => by
  obtain ⟨r, i, h1, h2, rfl, -⟩ := a_fl_mem hp
  exact ⟨r, h1, rfl⟩)
/-- ways through a door -/
theorem ln_way_out {d : Nat} (hmi : MI J N) (hd : MD J N d) (hs : N 36 d = 0) (ho : N 31 d < 0) : a_way J N (2 * d) = 0 := by
  have hnd := hmi.1.2.1.2
  have hd1 := hd.1
  have e1 : 2 * d / 2 = d := by omega
  have e2 : 2 * d % 2 = 0 := by omega
  have h31 : N 31 d = -1 := by
    rcases (hmi.2.2.1 d hd.1).1 with w | ⟨r, r1, r2, w | ⟨q, q1, q2, q3⟩⟩
    · exact absurd w hd.2
    · exact w
    · have := q1.lt hmi
      rw [q3] at ho
      exact absurd ho (nI_nlt (b := 0) (by omega) (by omega))
  have hL : LL J N (2 * d) = 0 := LL_out (by unfold m_into; rw [e1, if_pos (by omega), if_pos e2, h31])
  have hf : ¬ m_from J N (2 * d) = -2 := by
    unfold m_from
    rw [e1, if_pos (by omega), if_neg (fun w => by rcases w with w | w | w; omega; exact hd.2 w; exact w hs), if_pos e2]
    exact hd.2
  unfold a_way
  rw [hL, if_neg (fun w => by rcases w with w | w; exact hf w; exact absurd w (by decide))]
  rfl
theorem ln_way_shut {d : Nat} (hmi : MI J N) (hd : MD J N d) (hs : ¬ N 36 d = 0) {q : Nat} (hq : q < 2) : a_way J N (2 * d + q) = -1 := by
  have hnd := hmi.1.2.1.2
  have hd1 := hd.1
  unfold a_way
  rw [if_pos (Or.inl ?_)]
  unfold m_from
  rw [if_pos (by omega), show (2 * d + q) / 2 = d by omega, if_pos (Or.inr (Or.inr hs))]
theorem lea_ne {d : Nat} (hd : d < 40) (hs : ¬ N 36 d = 0) (j : Nat) : ¬ lea J N j / 2 = d := by
  intro w
  by_cases h : lea J N j = 100
  · omega
  · have hf := (m_act_mem.mp (lea_act h).1).2
    unfold m_from at hf
    rw [if_pos (by omega), w, if_pos (Or.inr (Or.inr hs))] at hf
    exact hf rfl
theorem ldp_no {k : Nat} {p : Int32} (h : ∀ j, ¬ lea J N j / 2 = k) : ∀ f r s, g_ldp J N k p f r s = s
  | 0, _, _ => rfl
  | f + 1, r, s => by
    rw [g_ldp]
    split
    · rfl
    · rw [ldp_no h f, if_neg (h _), Int32.add_zero]
theorem ln_load_shut {d : Nat} (hd : d < 40) (hs : ¬ N 36 d = 0) : a_load J N d = 0 := by
  have h : ∀ n, g_ld J N d n = 0 := by
    intro n
    induction n with
    | zero => rfl
    | succ n ih =>
      rw [g_ld]
      split
      · exact ih
      · rw [ldp_no (lea_ne hd hs), ih]
  exact h _
theorem ldp_none (k : Nat) (p : Int32) : ∀ f s, g_ldp J N k p f (-1) s = s
  | 0, _ => rfl
  | f + 1, s => by rw [g_ldp, if_pos rfl]
theorem ldp_low {k : Nat} {p : Int32} (hmi : MI J N) : ∀ f q t s, MR J N q → t < 1000 → g_deep J N q = nI t → (∀ y u, MR J N y → u ≤ t → g_deep J N y = nI u → ¬ lea J N y / 2 = k) → g_ldp J N k p f (nI q) s = s
  | 0, _, _, _, _, _, _, _ => rfl
  | f + 1, q, t, s, hq, ht, hd, h => by
    have hq20 := hq.lt hmi
    have hdn : ¬ g_deep J N q = -1 := by rw [hd]; exact nI_ne1 (by omega)
    have hl : ¬ lea J N q = 100 := fun w => hdn (ln_lost hq20 w).2.2.2.2
    rw [g_ldp, if_neg (nI_ne1 (by omega)), n_cl (by omega), if_neg (h q t hq (Nat.le_refl _) hd), Int32.add_zero]
    rcases ln_deep hmi hq hl with w | ⟨w, -⟩ | ⟨q2, t2, q1, q2n, q3, t1, t20, t3, t4⟩
    · exact absurd w hdn
    · rw [w]; exact ldp_none _ _ _ _
    · rw [q3]
      rw [t4, n_inj (by omega) (by omega)] at hd
      exact ldp_low hmi f q2 t2 s q1 (by omega) t3 (fun y u h1 h2 h3 => h y u h1 (by omega) h3)
theorem ldp_once {k : Nat} {p : Int32} (hmi : MI J N) (hU : ∀ x y, MR J N x → MR J N y → ¬ g_deep J N x = -1 → ¬ g_deep J N y = -1 → lea J N x / 2 = k → lea J N y / 2 = k → x = y) : ∀ f q t s, MR J N q → t < 1000 → g_deep J N q = nI t → g_ldp J N k p f (nI q) s = s ∨ g_ldp J N k p f (nI q) s = s + p
  | 0, _, _, _, _, _, _ => Or.inl rfl
  | f + 1, q, t, s, hq, ht, hd => by
    have hq20 := hq.lt hmi
    have hdn : ¬ g_deep J N q = -1 := by rw [hd]; exact nI_ne1 (by omega)
    have hl : ¬ lea J N q = 100 := fun w => hdn (ln_lost hq20 w).2.2.2.2
    rw [g_ldp, if_neg (nI_ne1 (by omega)), n_cl (by omega)]
    rcases ln_deep hmi hq hl with w | ⟨w, -⟩ | ⟨q2, t2, q1, q2n, q3, t1, t20, t3, t4⟩
    · exact absurd w hdn
    · rw [w, ldp_none]
      by_cases z : lea J N q / 2 = k
      · rw [if_pos z]; exact Or.inr rfl
      · rw [if_neg z, Int32.add_zero]; exact Or.inl rfl
    · rw [q3]
      rw [t4, n_inj (by omega) (by omega)] at hd
      by_cases z : lea J N q / 2 = k
      · rw [if_pos z]
        right
        refine ldp_low hmi f q2 t2 _ q1 (by omega) t3 (fun y u h1 h2 h3 h4 => ?_)
        have e := hU y q h1 hq (by rw [h3]; exact nI_ne1 (by omega)) hdn h4 z
        rw [e, t4, n_inj (by omega) (by omega)] at h3
        omega
      · rw [if_neg z, Int32.add_zero]
        exact ldp_once hmi hU f q2 t2 s q1 (by omega) t3
theorem ln_uniq {k : Nat} (hk : k < 40) (hmi : MI J N) (x y : Nat) (hx : MR J N x) (hy : MR J N y) (dx : ¬ g_deep J N x = -1) (dy : ¬ g_deep J N y = -1) (lx : lea J N x / 2 = k) (ly : lea J N y / 2 = k) : x = y := by
  have x20 := hx.lt hmi
  have y20 := hy.lt hmi
  have hlx : ¬ lea J N x = 100 := by omega
  have hly : ¬ lea J N y = 100 := by omega
  have ax := lea_act hlx
  have ay := lea_act hly
  have key : ∀ a b, MR J N a → MR J N b → ¬ lea J N a = 100 → ¬ lea J N b = 100 → ¬ g_deep J N a = -1 → ¬ g_deep J N b = -1 → lea J N a = 2 * k → lea J N b = 2 * k + 1 → False := by
    intro a b ha hb la lb da db ea eb
    have a20 := ha.lt hmi
    have b20 := hb.lt hmi
    have fa := (lea_act la).2.1
    have fb := (lea_act lb).2.1
    have ga := (m_act_mem.mp (lea_act la).1).2
    have gb := (m_act_mem.mp (lea_act lb).1).2
    unfold m_from at fa fb ga gb
    rw [ea, show 2 * k / 2 = k by omega, if_pos hk] at fa ga
    rw [eb, show (2 * k + 1) / 2 = k by omega, if_pos hk] at fb gb
    have c1 : ¬ (m_nd J ≤ k ∨ N 30 k = -2 ∨ ¬ N 36 k = 0) := fun w => by rw [if_pos w] at ga; exact ga rfl
    rw [if_neg c1, if_pos (by omega)] at fa
    rw [if_neg c1, if_neg (by omega)] at fb gb
    have c2 : ¬ N 31 k = -1 := fun w => by rw [if_pos w] at gb; exact gb rfl
    rw [if_neg c2] at fb
    have ia : m_into N (lea J N a) = nI b := by
      rw [ea]; unfold m_into
      rw [show 2 * k / 2 = k by omega, if_pos hk, if_pos (by omega)]; exact fb
    have ib : m_into N (lea J N b) = nI a := by
      rw [eb]; unfold m_into
      rw [show (2 * k + 1) / 2 = k by omega, if_pos hk, if_neg (by omega)]; exact fa
    rcases ln_deep hmi ha la with w | ⟨w, -⟩ | ⟨q, t, q1, q2, q3, t1, t2, t3, t4⟩
    · exact da w
    · rw [ia] at w; exact nI_ne1 (by omega) w
    · have := q1.lt hmi
      rw [ia, n_inj (by omega) (by omega)] at q3
      subst q3
      rcases ln_deep hmi hb lb with w | ⟨w, -⟩ | ⟨q', t', q1', q2', q3', t1', t2', t3', t4'⟩
      · exact db w
      · rw [ib] at w; exact nI_ne1 (by omega) w
      · have := q1'.lt hmi
        rw [ib, n_inj (by omega) (by omega)] at q3'
        subst q3'
        rw [t3, n_inj (by omega) (by omega)] at t4'
        rw [t3', n_inj (by omega) (by omega)] at t4
        omega
  have px : lea J N x = 2 * k ∨ lea J N x = 2 * k + 1 := by omega
  have py : lea J N y = 2 * k ∨ lea J N y = 2 * k + 1 := by omega
  have same : lea J N x = lea J N y → x = y := fun w => by
    have h1 := ax.2.1
    rw [w, ay.2.1, n_inj (by omega) (by omega)] at h1
    exact h1.symm
  rcases px with px | px <;> rcases py with py | py
  · exact same (by omega)
  · exact (key x y hx hy hlx hly dx dy px py).elim
  · exact (key y x hy hx hly hlx dy dx py px).elim
  · exact same (by omega)
theorem ln_load {k : Nat} (hk : k < 40) (hmi : MI J N) : ∃ m, a_load J N k = nI m ∧ m ≤ sumN (g_p J N) (m_nr J) := by
  have h : ∀ n, n ≤ m_nr J → ∃ m, g_ld J N k n = nI m ∧ m ≤ sumN (g_p J N) n := by
    intro n
    induction n with
    | zero => exact fun _ => ⟨0, rfl, Nat.le_refl _⟩
    | succ n ih =>
      intro hn
      obtain ⟨m, h1, h2⟩ := ih (by omega)
      rw [g_ld, sumN]
      by_cases c : N 23 n = -2 ∨ g_deep J N n = -1
      · rw [if_pos c]
        exact ⟨m, h1, by omega⟩
      · rw [if_neg c]
        have hr : MR J N n := ⟨by omega, fun w => c (Or.inl w)⟩
        have hp : N 29 n = nI (g_p J N n) := by
          unfold g_p
          rw [if_pos (show n < m_nr J ∧ ¬ N 23 n = -2 from hr)]
          exact ((hmi.2.1 n hr.1).2.2.2.2.2.2.eq (by decide)).1
        rcases g_dep_cases J N 21 (nI n) 0 with w | ⟨t, -, t2, t3⟩
        · exact absurd (Or.inr w) c
        · rcases ldp_once (p := N 29 n) hmi (ln_uniq hk hmi) 21 n t (g_ld J N k n) hr (by omega) t3 with e | e
          · exact ⟨m, e.trans h1, by omega⟩
          · refine ⟨m + g_p J N n, ?_, by omega⟩
            rw [e, h1, hp, n_add]
  exact h _ (Nat.le_refl _)
/-- a door turned, and turned back -/
theorem ln_tgl {d : Nat} (x : Int32) (h : N 36 d = 0 ∧ x = 1 ∨ N 36 d = 1 ∧ x = 0) : zk_un N 36 (upd (N 36) d x) = m_tgl N d := by
  unfold m_tgl
  rcases h with ⟨h1, rfl⟩ | ⟨h1, rfl⟩
  · rw [h1, if_pos rfl]
  · rw [h1, if_neg (by decide)]
theorem ln_back {d : Nat} (x : Int32) : zk_un (zk_un N 36 (upd (N 36) d x)) 36 (upd (zk_un N 36 (upd (N 36) d x) 36) d (N 36 d)) = N := by
  funext o
  unfold zk_un
  by_cases h : o = 36
  · subst h
    rw [if_pos rfl]
    funext j
    show upd (upd (N 36) d x) d (N 36 d) j = N 36 j
    rw [upd_upd]
    unfold upd
    by_cases q : j = d
    · rw [if_pos q, q]
    · rw [if_neg q]
  · rw [if_neg h, if_neg h]
end LN

