/-! numbers behind the law's questions: rooms and their leavings -/
section LN
variable {J N : Nat → Nat → Int32}
theorem ln_lost {j : Nat} (hj : j < 20) (h : lea J N j = 100) : a_isLost J N j = true ∧ a_leav J N j = -1 ∧ a_far J N j = -1 ∧ a_mid J N j = -1 ∧ g_deep J N j = -1 := by
  refine ⟨decide_eq_true h, by unfold a_leav; rw [if_pos h], by unfold a_far; rw [if_pos h], by unfold a_mid; rw [if_pos h], ?_⟩
  unfold g_deep
  rw [g_dep_eq, if_neg (nI_ne1 (by omega)), n_cl (by omega), if_pos h]
theorem ln_kept {j : Nat} (h : ¬ lea J N j = 100) : a_isLost J N j = false ∧ a_far J N j = nI (g_far J N j 4) ∧ a_mid J N j = nI (BB J N j).1 := by
  refine ⟨decide_eq_false h, by unfold a_far; rw [if_neg h], by unfold a_mid; rw [if_neg h]⟩
theorem g_bs_min {v : Nat → Nat} {r : Int32} {x y : Nat} : ∀ (L : List Nat) (p : Nat × Nat), (L.foldl (g_bs J N v r x y) p).1 ≤ p.1 ∧ ∀ e ∈ L, m_from J N e = r → v e < INF → (L.foldl (g_bs J N v r x y) p).1 ≤ dN (g_x N e) (g_y N e) x y + v e
  | [], p => ⟨Nat.le_refl _, fun e he => absurd he List.not_mem_nil⟩
  | a :: L, p => by
    obtain ⟨h1, h2⟩ := g_bs_min (v := v) (r := r) (x := x) (y := y) L (g_bs J N v r x y p a)
    have h3 : (g_bs J N v r x y p a).1 ≤ p.1 ∧ (m_from J N a = r → v a < INF → (g_bs J N v r x y p a).1 ≤ dN (g_x N a) (g_y N a) x y + v a) := by
      unfold g_bs
      split
      · rename_i w
        exact ⟨Nat.le_of_lt w.2.2, fun _ _ => Nat.le_refl _⟩
      · rename_i w
        refine ⟨Nat.le_refl _, fun w1 w2 => ?_⟩
        rcases Nat.lt_or_ge (dN (g_x N a) (g_y N a) x y + v a) p.1 with q | q
        · exact absurd ⟨w1, w2, q⟩ w
        · exact q
    refine ⟨Nat.le_trans h1 h3.1, fun e he w1 w2 => ?_⟩
    rcases List.mem_cons.mp he with rfl | he
    · exact Nat.le_trans h1 (h3.2 w1 w2)
    · exact h2 e he w1 w2
theorem dN_tri {a b x y w h s t : Nat} (hs : s = 0 ∨ s = 1) (ht : t = 0 ∨ t = 1) : dN a b (2 * (x + s * w)) (2 * (y + t * h)) ≤ dN a b (2 * x + w) (2 * y + h) + (w + h) ∧ dN a b (2 * x + w) (2 * y + h) ≤ dN a b (2 * (x + s * w)) (2 * (y + t * h)) + (w + h) := by
  unfold dN
  rcases hs with rfl | rfl <;> rcases ht with rfl | rfl <;> simp only [Nat.zero_mul, Nat.one_mul, Nat.add_zero] <;> omega
theorem ln_cor {j c : Nat} (h : ¬ lea J N j = 100) (hc : c < 4) : g_cor J N j c ≤ (BB J N j).1 + ((N 26 j).toNatClampNeg + (N 27 j).toNatClampNeg) ∧ (BB J N j).1 ≤ g_cor J N j c + ((N 26 j).toNatClampNeg + (N 27 j).toNatClampNeg) := by
  obtain ⟨h1, h2, h3, h4⟩ := lea_act h
  have hs : c % 2 = 0 ∨ c % 2 = 1 := by omega
  have ht : c / 2 = 0 ∨ c / 2 = 1 := by omega
  have hl := (m_act_mem.mp h1).1
  constructor
  · unfold g_cor
    refine g_least_le.mpr (Or.inr ⟨lea J N j, h1, ⟨nI_ne1 (by omega), h2, h3⟩, ?_⟩)
    have := (dN_tri (a := g_x N (lea J N j)) (b := g_y N (lea J N j)) (x := (N 24 j).toNatClampNeg) (y := (N 25 j).toNatClampNeg) (w := (N 26 j).toNatClampNeg) (h := (N 27 j).toNatClampNeg) hs ht).1
    unfold g_mx g_my at h4
    omega
  · have key := (g_least_le (J := J) (N := N) (v := LL J N) (r := nI j) (b := -1) (x := 2 * ((N 24 j).toNatClampNeg + c % 2 * (N 26 j).toNatClampNeg)) (y := 2 * ((N 25 j).toNatClampNeg + c / 2 * (N 27 j).toNatClampNeg)) (t := g_cor J N j c)).mp (Nat.le_refl _)
    rcases key with key | ⟨e, e1, ⟨-, e2, e3⟩, e4⟩
    · have hb : (BB J N j).1 ≤ INF := (g_bs_min (J := J) (N := N) (m_act J N) (INF, 100)).1
      omega
    · have h5 : (BB J N j).1 ≤ dN (g_x N e) (g_y N e) (g_mx N j) (g_my N j) + LL J N e := (g_bs_min (J := J) (N := N) (m_act J N) (INF, 100)).2 e e1 e2 e3
      have := (dN_tri (a := g_x N e) (b := g_y N e) (x := (N 24 j).toNatClampNeg) (y := (N 25 j).toNatClampNeg) (w := (N 26 j).toNatClampNeg) (h := (N 27 j).toNatClampNeg) hs ht).2
      unfold g_mx g_my at h5
      omega
theorem ln_far {j : Nat} (h : ¬ lea J N j = 100) : g_far J N j 4 ≤ (BB J N j).1 + ((N 26 j).toNatClampNeg + (N 27 j).toNatClampNeg) ∧ (BB J N j).1 ≤ g_far J N j 4 + ((N 26 j).toNatClampNeg + (N 27 j).toNatClampNeg) ∧ (BB J N j).1 ≤ INF ∧ g_far J N j 4 ≤ INF := by
  have e : g_far J N j 4 = max (max (max (max 0 (g_cor J N j 0)) (g_cor J N j 1)) (g_cor J N j 2)) (g_cor J N j 3) := rfl
  have c0 := ln_cor h (c := 0) (by decide)
  have c1 := ln_cor h (c := 1) (by decide)
  have c2 := ln_cor h (c := 2) (by decide)
  have c3 := ln_cor h (c := 3) (by decide)
  have b : ∀ c, g_cor J N j c ≤ INF := fun c => fmin_le_init _ _ _ _
  have b0 := b 0
  have b1 := b 1
  have b2 := b 2
  have b3 := b 3
  have hb : (BB J N j).1 ≤ INF := (g_bs_min (J := J) (N := N) (m_act J N) (INF, 100)).1
  rw [e]
  omega
theorem ln_into {j : Nat} (hmi : MI J N) (hj : MR J N j) (h : ¬ lea J N j = 100) : m_into N (lea J N j) = -1 ∨ ∃ q, MR J N q ∧ q ≠ j ∧ m_into N (lea J N j) = nI q := by
  have ha := lea_act h
  have hj20 := hj.lt hmi
  obtain ⟨r2, a1, a2, a3⟩ := m_ends hmi ha.1
  rw [ha.2.1, n_inj (by omega) (by have := a1.lt hmi; omega)] at a2
  subst a2
  exact a3
/-- a room's leaving -/
theorem ln_leav {j : Nat} (hmi : MI J N) (hj : MR J N j) (h : ¬ lea J N j = 100) : (∃ k, k < m_nd J ∧ ¬ N 30 k = -2 ∧ a_leav J N j = nI k ∧ N 36 k = 0 ∧ (N 31 k < 0 ↔ m_into N (lea J N j) = -1) ∧ ((N 30 k = nI j ∧ m_into N (lea J N j) = N 31 k) ∨ (¬ N 30 k = nI j ∧ N 31 k = nI j ∧ m_into N (lea J N j) = N 30 k))) ∨ (∃ m, 100 ≤ m ∧ m ≤ 200 ∧ a_leav J N j = nI m ∧ ¬ m_into N (lea J N j) = -1) := by
  have ha := lea_act h
  have hj20 := hj.lt hmi
  obtain ⟨hl, hf⟩ := m_act_mem.mp ha.1
  have hl2 := lea_le J N j
  have hfr := ha.2.1
  by_cases k40 : lea J N j / 2 < 40
  · left
    have hk := act_nd ha.1 k40
    have hd := (hmi.2.2.1 (lea J N j / 2) hk).1
    refine ⟨lea J N j / 2, hk, ?_, ?_, ?_⟩
    · intro w
      unfold m_from at hf
      rw [if_pos k40, if_pos (Or.inr (Or.inl w))] at hf
      exact hf rfl
    · unfold a_leav
      rw [if_neg h, if_pos k40]
    · unfold m_from at hf hfr
      unfold m_into
      rw [if_pos k40] at hf hfr ⊢
      have c1 : ¬ (m_nd J ≤ lea J N j / 2 ∨ N 30 (lea J N j / 2) = -2 ∨ ¬ N 36 (lea J N j / 2) = 0) := fun w => by rw [if_pos w] at hf; exact hf rfl
      rw [if_neg c1] at hf hfr
      have c3 : N 36 (lea J N j / 2) = 0 := Decidable.byContradiction fun w => c1 (Or.inr (Or.inr w))
      refine ⟨c3, ?_⟩
      rcases hd with w | ⟨r, r1, r2, r3⟩
      · exact absurd (Or.inr (Or.inl w)) c1
      · have hr20 := r1.lt hmi
        by_cases p : lea J N j % 2 = 0
        · rw [if_pos p] at hfr ⊢
          refine ⟨?_, Or.inl ⟨hfr, rfl⟩⟩
          rcases r3 with w | ⟨q, q1, q2, q3⟩
          · rw [w]; exact ⟨fun _ => rfl, fun _ => by decide⟩
          · have := q1.lt hmi
            rw [q3]
            exact ⟨fun w => absurd w (nI_nlt (b := 0) (by omega) (by omega)), fun w => absurd w (nI_ne1 (by omega))⟩
        · rw [if_neg p] at hf hfr ⊢
          rcases r3 with w | ⟨q, q1, q2, q3⟩
          · rw [if_pos w] at hf; exact absurd rfl hf
          · have hq20 := q1.lt hmi
            have w9 : ¬ N 31 (lea J N j / 2) = -1 := by rw [q3]; exact nI_ne1 (by omega)
            rw [if_neg w9] at hfr
            have e1 : q = j := by
              rw [q3, n_inj (by omega) (by omega)] at hfr
              exact hfr
            subst e1
            refine ⟨?_, Or.inr ⟨?_, q3, rfl⟩⟩
            · rw [q3, r2]
              exact ⟨fun w => absurd w (nI_nlt (b := 0) (by omega) (by omega)), fun w => absurd w (nI_ne1 (by omega))⟩
            · intro w
              rw [r2, n_inj (by omega) (by omega)] at w
              exact q2 w.symm
  · right
    refine ⟨60 + lea J N j / 2, by omega, by omega, by unfold a_leav; rw [if_neg h, if_neg k40], ?_⟩
    unfold m_from at hf
    unfold m_into
    rw [if_neg k40] at hf ⊢
    have c1 : ¬ (m_ns J ≤ lea J N j / 2 - 40 ∨ N 42 (lea J N j / 2 - 40) = -2) := fun w => by rw [if_pos w] at hf; exact hf rfl
    have c2 : ¬ m_ns J ≤ lea J N j / 2 - 40 := fun q => c1 (Or.inl q)
    rcases (hmi.2.2.2.2.1 (lea J N j / 2 - 40) (by omega)).1 with w | ⟨r, r1, r2, q, q1, q2, q3⟩
    · exact absurd (Or.inr w) c1
    · have := r1.lt hmi
      have := q1.lt hmi
      split
      · rw [q3]; exact nI_ne1 (by omega)
      · rw [r2]; exact nI_ne1 (by omega)
theorem ln_ne {j : Nat} (hmi : MI J N) (hj : MR J N j) (h : ¬ lea J N j = 100) : ¬ a_leav J N j = -1 := by
  have hnd := hmi.1.2.1.2
  rcases ln_leav hmi hj h with ⟨k, h1, -, h2, -⟩ | ⟨m, h1, h2, h3, -⟩
  · rw [h2]; exact nI_ne1 (by omega)
  · rw [h3]; exact nI_ne1 (by omega)
/-- a room's depth, and the next room's -/
theorem ln_deep {j : Nat} (hmi : MI J N) (hj : MR J N j) (h : ¬ lea J N j = 100) : g_deep J N j = -1 ∨ (m_into N (lea J N j) = -1 ∧ g_deep J N j = 1) ∨ ∃ q t, MR J N q ∧ q ≠ j ∧ m_into N (lea J N j) = nI q ∧ 1 ≤ t ∧ t < 20 ∧ g_deep J N q = nI t ∧ g_deep J N j = nI (t + 1) := by
  have hj20 := hj.lt hmi
  by_cases hd : g_deep J N j = -1
  · exact Or.inl hd
  · right
    obtain ⟨t, t1, t2, t3⟩ := g_deep_next hj20 hd
    rcases ln_into hmi hj h with w | ⟨q, q1, q2, q3⟩
    · left
      refine ⟨w, ?_⟩
      unfold g_deep
      rw [g_dep_eq, if_neg (nI_ne1 (by omega)), n_cl (by omega), if_neg h, w]
      rfl
    · right
      have hq20 := q1.lt hmi
      rcases t3 with w | w
      · rw [q3] at w; exact absurd w (nI_ne1 (by omega))
      · rw [q3] at w
        refine ⟨q, t, q1, q2, q3, ?_, t1, w, t2⟩
        rcases Nat.eq_zero_or_pos t with z | z
        · subst z
          rw [g_dep_eq, if_neg (nI_ne1 (by omega)), n_cl (by omega)] at w
          split at w
          · exact absurd w.symm (nI_ne1 (by omega))
          · rcases g_dep_cases J N 20 (m_into N (lea J N q)) (0 + 1) with u | ⟨s, s1, s2, s3⟩
            · rw [u] at w; exact absurd w.symm (nI_ne1 (by omega))
            · rw [s3, n_inj (by omega) (by omega)] at w
              omega
        · exact z
end LN

