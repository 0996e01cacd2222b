/-! the state of the main phase: ints by object and field, arrays by their place, the other cells -/
abbrev zk_S : Type := (Nat → Nat → Int32) × (Nat → Nat → Int32) × (Nat → Nat → Option Nat) × zk_Hp × (Nat → Int64)
def zk_ad (E : zk_E) (k : Nat) : Nat := E.1 + k
def zk_un {α : Type} (f : Nat → α) (k : Nat) (g : α) : Nat → α := fun o => if o = k then g else f o
def zk_uj (J : Nat → Nat → Int32) (o k : Nat) (x : Int32) : Nat → Nat → Int32 := fun a b => if a = o ∧ b = k then x else J a b
def zk_cell (E : zk_E) (J : Nat → Nat → Int32) (N : Nat → Nat → Int32) (Q : Nat → Nat → Option Nat) (U : Nat → Int64) (k : Nat) : Option va_E := match k with
  | 0 => some (.inr (9, [.ref (zk_ad E 1), .ref (zk_ad E 7), .ref (zk_ad E 15), .ref (zk_ad E 18), .int (J 0 4)]))
  | 1 => some (.inr (4, [.ref (zk_ad E 2), .ref (zk_ad E 3), .ref (zk_ad E 4), .ref (zk_ad E 5), .ref (zk_ad E 6), .int (J 1 5), .int (J 1 6), .int (J 1 7), .int (J 1 8)]))
  | 2 => some (.inl (zk_ar E 3, 20, .inr (.inr (.inr (.inr (Q 2))))))
  | 3 => some (.inl (zk_ar E 4, 40, .inr (.inr (.inr (.inr (Q 3))))))
  | 4 => some (.inl (zk_ar E 5, 40, .inr (.inr (.inr (.inr (Q 4))))))
  | 5 => some (.inl (zk_ar E 6, 10, .inr (.inr (.inr (.inr (Q 5))))))
  | 6 => some (.inl (zk_ar E 0, 10, .inl (N 6)))
  | 7 => some (.inr (7, [.ref (zk_ad E 8), .ref (zk_ad E 9), .ref (zk_ad E 10), .ref (zk_ad E 11), .ref (zk_ad E 12), .ref (zk_ad E 13), .ref (zk_ad E 14)]))
  | 8 => some (.inl (zk_ar E 0, 50, .inl (N 8)))
  | 9 => some (.inl (zk_ar E 0, 50, .inl (N 9)))
  | 10 => some (.inl (zk_ar E 0, 50, .inl (N 10)))
  | 11 => some (.inl (zk_ar E 0, 20, .inl (N 11)))
  | 12 => some (.inl (zk_ar E 0, 20, .inl (N 12)))
  | 13 => some (.inl (zk_ar E 0, 20, .inl (N 13)))
  | 14 => some (.inl (zk_ar E 0, 20, .inl (N 14)))
  | 15 => some (.inr (0, [.ref (zk_ad E 16), .ref (zk_ad E 17)]))
  | 16 => some (.inl (zk_ar E 0, 20, .inl (N 16)))
  | 17 => some (.inl (zk_ar E 0, 20, .inl (N 17)))
  | 18 => some (.inr (2, [.ref (zk_ad E 19), .ref (zk_ad E 20), .ref (zk_ad E 21), .int (J 18 3)]))
  | 19 => some (.inl (zk_ar E 0, 210, .inl (N 19)))
  | 20 => some (.inl (zk_ar E 0, 210, .inl (N 20)))
  | 21 => some (.inl (zk_ar E 0, 210, .inl (N 21)))
  | 22 => some (.inr (10, [.int (J 22 0), .int (J 22 1), .ref (zk_ad E 23), .ref (zk_ad E 24), .ref (zk_ad E 25), .ref (zk_ad E 26), .ref (zk_ad E 27), .ref (zk_ad E 28), .ref (zk_ad E 29), .int (J 22 9), .ref (zk_ad E 30), .ref (zk_ad E 31), .ref (zk_ad E 32), .ref (zk_ad E 33), .ref (zk_ad E 34), .ref (zk_ad E 35), .ref (zk_ad E 36), .int (J 22 17), .ref (zk_ad E 37), .ref (zk_ad E 38), .ref (zk_ad E 39), .ref (zk_ad E 40), .ref (zk_ad E 41), .int (J 22 23), .ref (zk_ad E 42), .ref (zk_ad E 43), .ref (zk_ad E 44), .ref (zk_ad E 45), .ref (zk_ad E 46), .ref (zk_ad E 47), .ref (zk_ad E 48), .ref (zk_ad E 49), .ref (zk_ad E 50), .int (J 22 33), .ref (zk_ad E 51), .int (J 22 35), .ref (zk_ad E 52), .ref (zk_ad E 53)]))
  | 23 => some (.inl (zk_ar E 0, 20, .inl (N 23)))
  | 24 => some (.inl (zk_ar E 0, 20, .inl (N 24)))
  | 25 => some (.inl (zk_ar E 0, 20, .inl (N 25)))
  | 26 => some (.inl (zk_ar E 0, 20, .inl (N 26)))
  | 27 => some (.inl (zk_ar E 0, 20, .inl (N 27)))
  | 28 => some (.inl (zk_ar E 0, 20, .inl (N 28)))
  | 29 => some (.inl (zk_ar E 0, 20, .inl (N 29)))
  | 30 => some (.inl (zk_ar E 0, 40, .inl (N 30)))
  | 31 => some (.inl (zk_ar E 0, 40, .inl (N 31)))
  | 32 => some (.inl (zk_ar E 0, 40, .inl (N 32)))
  | 33 => some (.inl (zk_ar E 0, 40, .inl (N 33)))
  | 34 => some (.inl (zk_ar E 0, 40, .inl (N 34)))
  | 35 => some (.inl (zk_ar E 1, 40, .inl (N 35)))
  | 36 => some (.inl (zk_ar E 1, 40, .inl (N 36)))
  | 37 => some (.inl (zk_ar E 0, 40, .inl (N 37)))
  | 38 => some (.inl (zk_ar E 0, 40, .inl (N 38)))
  | 39 => some (.inl (zk_ar E 0, 40, .inl (N 39)))
  | 40 => some (.inl (zk_ar E 0, 40, .inl (N 40)))
  | 41 => some (.inl (zk_ar E 1, 40, .inl (N 41)))
  | 42 => some (.inl (zk_ar E 0, 10, .inl (N 42)))
  | 43 => some (.inl (zk_ar E 0, 10, .inl (N 43)))
  | 44 => some (.inl (zk_ar E 0, 10, .inl (N 44)))
  | 45 => some (.inl (zk_ar E 0, 10, .inl (N 45)))
  | 46 => some (.inl (zk_ar E 0, 10, .inl (N 46)))
  | 47 => some (.inl (zk_ar E 0, 100, .inl (N 47)))
  | 48 => some (.inl (zk_ar E 0, 20, .inl (N 48)))
  | 49 => some (.inl (zk_ar E 0, 20, .inl (N 49)))
  | 50 => some (.inl (zk_ar E 0, 20, .inl (N 50)))
  | 51 => some (.inl (zk_ar E 0, 1200, .inl (N 51)))
  | 52 => some (.inl (zk_ar E 0, 100, .inl (N 52)))
  | 53 => some (.inl (zk_ar E 0, 20, .inl (N 53)))
  | 54 => some (.inl (zk_ar E 2, 1, .inr (.inl U)))
  | _ => none
def zk_view (E : zk_E) (σ : zk_S) (q : Nat) : Option va_E := match decide (q < E.1), decide (q < E.1 + 55) with
  | true, _ => none
  | false, true => zk_cell E σ.1 σ.2.1 σ.2.2.1 σ.2.2.2.2 (q - E.1)
  | false, false => σ.2.2.2.1 q
def zk_po (O : zk_Hp) (a k : Nat) (v : Value) : zk_Hp := fun q => if q = a then (match O a with
  | some (.inr (ci, fs)) => some (.inr (ci, fs.set k v))
  | o => o) else O q
def zk_st (E : zk_E) (a : Nat) : Bool := decide (E.1 ≤ a) && decide (a < E.1 + 55)
def zk_wr (E : zk_E) (σ : zk_S) (a : Nat) (e : va_E) : zk_S := match zk_st E a with
  | true => (match e with
    | .inl (_, _, .inl g) => (σ.1, zk_un σ.2.1 (a - E.1) g, σ.2.2.1, σ.2.2.2.1, σ.2.2.2.2)
    | .inl (_, _, .inr (.inl g)) => (σ.1, σ.2.1, σ.2.2.1, σ.2.2.2.1, g)
    | .inl (_, _, .inr (.inr (.inr (.inr g)))) => (σ.1, σ.2.1, zk_un σ.2.2.1 (a - E.1) g, σ.2.2.2.1, σ.2.2.2.2)
    | _ => σ)
  | false => (σ.1, σ.2.1, σ.2.2.1, zk_up σ.2.2.2.1 a e, σ.2.2.2.2)
def zk_like (e : va_E) (o : Option va_E) : Prop := match e, o with
  | .inl (c, n, .inl _), some (.inl (c2, n2, .inl _)) => c = c2 ∧ n = n2
  | .inl (c, n, .inr (.inl _)), some (.inl (c2, n2, .inr (.inl _))) => c = c2 ∧ n = n2
  | .inl (c, n, .inr (.inr (.inr (.inr _)))), some (.inl (c2, n2, .inr (.inr (.inr (.inr _))))) => c = c2 ∧ n = n2
  | _, _ => False
def zk_wrok (E : zk_E) (σ : zk_S) (a : Nat) (e : va_E) : Prop := match zk_st E a with
  | true => zk_like e (zk_view E σ a)
  | false => E.1 + 55 ≤ a
def zk_pf (E : zk_E) (σ : zk_S) (a k : Nat) (v : Value) : zk_S := match zk_st E a with
  | true => (match v with
    | .int x => (zk_uj σ.1 (a - E.1) k x, σ.2.1, σ.2.2.1, σ.2.2.2.1, σ.2.2.2.2)
    | _ => σ)
  | false => (σ.1, σ.2.1, σ.2.2.1, zk_po σ.2.2.2.1 a k v, σ.2.2.2.2)
def zk_jf : List (Nat × Nat) := [(0, 4), (1, 5), (1, 6), (1, 7), (1, 8), (18, 3), (22, 0), (22, 1), (22, 9), (22, 17), (22, 23), (22, 33), (22, 35)]
def zk_pfok (E : zk_E) (_ : zk_S) (a k : Nat) (v : Value) : Prop := match zk_st E a with
  | true => (match v with
    | .int _ => (a - E.1, k) ∈ zk_jf
    | _ => False)
  | false => True
def zk_VT (E : zk_E) : zk_V zk_S := (zk_view E, zk_wr E, zk_wrok E, zk_pf E, zk_pfok E)
theorem zk_view_st {E : zk_E} {σ : zk_S} {a : Nat} (h : zk_st E a = true) : zk_view E σ a = zk_cell E σ.1 σ.2.1 σ.2.2.1 σ.2.2.2.2 (a - E.1) := by
  simp only [zk_st, Bool.and_eq_true, decide_eq_true_eq] at h
  unfold zk_view
  rw [decide_eq_false (by omega), decide_eq_true h.2]
theorem zk_view_dy {E : zk_E} {σ : zk_S} {a : Nat} (h : zk_st E a = false) : zk_view E σ a = if a < E.1 then none else σ.2.2.2.1 a := by
  simp only [zk_st, Bool.and_eq_false_iff, decide_eq_false_iff_not] at h
  unfold zk_view
  by_cases h1 : a < E.1
  · rw [decide_eq_true h1, if_pos h1]
  · rw [decide_eq_false h1, if_neg h1, decide_eq_false (by omega)]
theorem zk_off_ne {E : zk_E} {a b : Nat} (ha : zk_st E a = true) (hb : zk_st E b = true) (h : b ≠ a) : b - E.1 ≠ a - E.1 := by
  simp only [zk_st, Bool.and_eq_true, decide_eq_true_eq] at ha hb
  omega
set_option maxHeartbeats 4000000 in
theorem zk_cell_N {E : zk_E} {J N : Nat → Nat → Int32} {Q : Nat → Nat → Option Nat} {U : Nat → Int64} {k o : Nat} {g : Nat → Int32} (h : o ≠ k) : zk_cell E J (zk_un N k g) Q U o = zk_cell E J N Q U o := by
  unfold zk_cell
  split <;> first | rfl | simp only [zk_un, if_neg h]
set_option maxHeartbeats 4000000 in
theorem zk_cell_Q {E : zk_E} {J N : Nat → Nat → Int32} {Q : Nat → Nat → Option Nat} {U : Nat → Int64} {k o : Nat} {g : Nat → Option Nat} (h : o ≠ k) : zk_cell E J N (zk_un Q k g) U o = zk_cell E J N Q U o := by
  unfold zk_cell
  split <;> first | rfl | simp only [zk_un, if_neg h]
set_option maxHeartbeats 4000000 in
theorem zk_cell_J {E : zk_E} {J N : Nat → Nat → Int32} {Q : Nat → Nat → Option Nat} {U : Nat → Int64} {k o j : Nat} {x : Int32} (h : o ≠ k) : zk_cell E (zk_uj J k j x) N Q U o = zk_cell E J N Q U o := by
  have e : ∀ i, zk_uj J k j x o i = J o i := fun i => by unfold zk_uj; rw [if_neg (fun q => h q.1)]
  unfold zk_cell
  split <;> first | rfl | simp only [e]
set_option maxHeartbeats 4000000 in
theorem zk_cell_like {E : zk_E} {J N : Nat → Nat → Int32} {Q : Nat → Nat → Option Nat} {U : Nat → Int64} {o : Nat} {c : ClassId} {n : Nat} {g : Nat → Int32} (h : zk_like (.inl (c, n, .inl g)) (zk_cell E J N Q U o)) : zk_cell E J (zk_un N o g) Q U o = some (.inl (c, n, .inl g)) := by
  unfold zk_cell at h ⊢
  split at h <;> first | exact h.elim | (obtain ⟨rfl, rfl⟩ := h; simp only [zk_un, if_pos])
set_option maxHeartbeats 4000000 in
theorem zk_cell_likeQ {E : zk_E} {J N : Nat → Nat → Int32} {Q : Nat → Nat → Option Nat} {U : Nat → Int64} {o : Nat} {c : ClassId} {n : Nat} {g : Nat → Option Nat} (h : zk_like (.inl (c, n, .inr (.inr (.inr (.inr g))))) (zk_cell E J N Q U o)) : zk_cell E J N (zk_un Q o g) U o = some (.inl (c, n, .inr (.inr (.inr (.inr g))))) := by
  unfold zk_cell at h ⊢
  split at h <;> first | exact h.elim | (obtain ⟨rfl, rfl⟩ := h; simp only [zk_un, if_pos])
set_option maxHeartbeats 4000000 in
theorem zk_cell_likeU {E : zk_E} {J N : Nat → Nat → Int32} {Q : Nat → Nat → Option Nat} {U : Nat → Int64} {o : Nat} {c : ClassId} {n : Nat} {g : Nat → Int64} (h : zk_like (.inl (c, n, .inr (.inl g))) (zk_cell E J N Q U o)) : o = 54 ∧ zk_cell E J N Q g o = some (.inl (c, n, .inr (.inl g))) := by
  unfold zk_cell at h ⊢
  split at h <;> first | exact h.elim | (obtain ⟨rfl, rfl⟩ := h; exact ⟨rfl, rfl⟩)
set_option maxHeartbeats 4000000 in
theorem zk_cell_U {E : zk_E} {J N : Nat → Nat → Int32} {Q : Nat → Nat → Option Nat} {U U2 : Nat → Int64} {o : Nat} (h : o ≠ 54) : zk_cell E J N Q U2 o = zk_cell E J N Q U o := by
  unfold zk_cell
  split <;> first | rfl | exact absurd rfl h
set_option maxHeartbeats 4000000 in
theorem zk_cell_pf {E : zk_E} {J N : Nat → Nat → Int32} {Q : Nat → Nat → Option Nat} {U : Nat → Int64} {o k ci : Nat} {x : Int32} {fs : List Value} (h : (o, k) ∈ zk_jf) (hc : zk_cell E J N Q U o = some (.inr (ci, fs))) : zk_cell E (zk_uj J o k x) N Q U o = some (.inr (ci, fs.set k (.int x))) := by
  simp only [zk_jf, List.mem_cons, List.not_mem_nil, or_false, Prod.mk.injEq] at h
  rcases h with ⟨rfl, rfl⟩ | ⟨rfl, rfl⟩ | ⟨rfl, rfl⟩ | ⟨rfl, rfl⟩ | ⟨rfl, rfl⟩ | ⟨rfl, rfl⟩ | ⟨rfl, rfl⟩ | ⟨rfl, rfl⟩ | ⟨rfl, rfl⟩ | ⟨rfl, rfl⟩ | ⟨rfl, rfl⟩ | ⟨rfl, rfl⟩ | ⟨rfl, rfl⟩ <;> (cases hc; simp [zk_cell, zk_uj])
theorem zk_VT_ok (E : zk_E) : zk_VK (zk_VT E) := by
  refine ⟨fun σ a e h b e2 hb => ?_, fun σ a k v ci fs h0 h b e2 hb => ?_⟩
  · change zk_wrok E σ a e at h
    change zk_view E (zk_wr E σ a e) b = some e2 at hb
    change zk_up (zk_view E σ) a e b = some e2
    unfold zk_wrok at h
    unfold zk_wr at hb
    unfold zk_up
    split at h
    · rename_i hs
      rw [zk_view_st hs] at h
      rw [hs] at hb
      dsimp only at hb
      obtain ⟨J, N, Q, O, U⟩ := σ
      dsimp only at h hb
      have other : ∀ {σ2 : zk_S}, σ2.2.2.2.1 = O → (∀ o, o ≠ a - E.1 → zk_cell E σ2.1 σ2.2.1 σ2.2.2.1 σ2.2.2.2.2 o = zk_cell E J N Q U o) → zk_cell E σ2.1 σ2.2.1 σ2.2.2.1 σ2.2.2.2.2 (a - E.1) = some e → zk_view E σ2 b = some e2 → (if b = a then some e else zk_view E (J, N, Q, O, U) b) = some e2 := by
        intro σ2 h1 h2 h3 h4
        by_cases q : b = a
        · subst q
          rw [if_pos rfl]
          rw [zk_view_st hs, h3] at h4
          exact h4
        · rw [if_neg q]
          cases hsb : zk_st E b with
          | true =>
            rw [zk_view_st hsb] at h4 ⊢
            rw [h2 _ (zk_off_ne hs hsb q)] at h4
            exact h4
          | false =>
            rw [zk_view_dy hsb] at h4 ⊢
            rw [h1] at h4
            exact h4
      match e, h, hb with
      | .inl (c, n, .inl g), h, hb => exact other rfl (fun o q => zk_cell_N q) (zk_cell_like h) hb
      | .inl (c, n, .inr (.inl g)), h, hb => exact other rfl (fun o q => zk_cell_U (by have := (zk_cell_likeU h).1; omega)) (zk_cell_likeU h).2 hb
      | .inl (c, n, .inr (.inr (.inr (.inr g)))), h, hb => exact other rfl (fun o q => zk_cell_Q q) (zk_cell_likeQ h) hb
    · rename_i hs
      rw [hs] at hb
      dsimp only at hb
      by_cases q : b = a
      · subst q
        rw [if_pos rfl]
        rw [zk_view_dy hs, if_neg (by omega)] at hb
        simpa [zk_up] using hb
      · rw [if_neg q]
        cases hsb : zk_st E b with
        | true =>
          rw [zk_view_st hsb] at hb ⊢
          exact hb
        | false =>
          rw [zk_view_dy hsb] at hb ⊢
          simpa [zk_up, q] using hb
  · change zk_pfok E σ a k v at h
    change zk_view E (zk_pf E σ a k v) b = some e2 at hb
    change zk_view E σ a = _ at h0
    change zk_up (zk_view E σ) a _ b = some e2
    unfold zk_pfok at h
    unfold zk_pf at hb
    unfold zk_up
    split at h
    · rename_i hs
      split at h
      · rename_i x
        rw [hs] at hb
        dsimp only at hb
        rw [zk_view_st hs] at h0
        by_cases q : b = a
        · subst q
          rw [if_pos rfl]
          rw [zk_view_st hs] at hb
          dsimp only at hb
          rw [zk_cell_pf h h0] at hb
          exact hb
        · rw [if_neg q]
          cases hsb : zk_st E b with
          | true =>
            rw [zk_view_st hsb] at hb ⊢
            dsimp only at hb
            rw [zk_cell_J (zk_off_ne hs hsb q)] at hb
            exact hb
          | false =>
            rw [zk_view_dy hsb] at hb ⊢
            exact hb
      · exact h.elim
    · rename_i hs
      rw [hs] at hb
      dsimp only at hb
      rw [zk_view_dy hs] at h0
      by_cases q : b = a
      · subst q
        rw [if_pos rfl]
        rw [zk_view_dy hs] at hb
        split at h0
        · cases h0
        · rename_i hlt
          rw [if_neg hlt] at hb
          simp only [zk_po, if_pos, h0] at hb
          exact hb
      · rw [if_neg q]
        cases hsb : zk_st E b with
        | true =>
          rw [zk_view_st hsb] at hb ⊢
          exact hb
        | false =>
          rw [zk_view_dy hsb] at hb ⊢
          simpa [zk_po, q] using hb
theorem zk_st_ad {E : zk_E} {k : Nat} (h : k < 55) : zk_st E (zk_ad E k) = true := by
  have h1 : E.1 ≤ zk_ad E k := Nat.le_add_right _ _
  have h2 : zk_ad E k < E.1 + 55 := Nat.add_lt_add_left h _
  unfold zk_st
  rw [decide_eq_true h1, decide_eq_true h2]
  rfl
theorem zk_ad_sub (E : zk_E) (k : Nat) : zk_ad E k - E.1 = k := Nat.add_sub_cancel_left ..
theorem zk_view_ad {E : zk_E} {σ : zk_S} {k : Nat} (h : k < 55) : zk_view E σ (zk_ad E k) = zk_cell E σ.1 σ.2.1 σ.2.2.1 σ.2.2.2.2 k := by
  rw [zk_view_st (zk_st_ad h), zk_ad_sub]
section ZV
variable (E : zk_E) (J N : Nat → Nat → Int32) (Q : Nat → Nat → Option Nat) (O : zk_Hp) (U : Nat → Int64)
theorem zf_0_0 (cs : List Nat) (F : Value → Prop) : zk_fld (zk_view E (J, N, Q, O, U) (zk_ad E 0)) cs 0 F = (9 ∈ cs ∧ F (.ref (zk_ad E 1))) := by rw [zk_view_ad (by decide)]; rfl
theorem zf_0_1 (cs : List Nat) (F : Value → Prop) : zk_fld (zk_view E (J, N, Q, O, U) (zk_ad E 0)) cs 1 F = (9 ∈ cs ∧ F (.ref (zk_ad E 7))) := by rw [zk_view_ad (by decide)]; rfl
theorem zf_0_2 (cs : List Nat) (F : Value → Prop) : zk_fld (zk_view E (J, N, Q, O, U) (zk_ad E 0)) cs 2 F = (9 ∈ cs ∧ F (.ref (zk_ad E 15))) := by rw [zk_view_ad (by decide)]; rfl
theorem zf_0_3 (cs : List Nat) (F : Value → Prop) : zk_fld (zk_view E (J, N, Q, O, U) (zk_ad E 0)) cs 3 F = (9 ∈ cs ∧ F (.ref (zk_ad E 18))) := by rw [zk_view_ad (by decide)]; rfl
theorem zf_0_4 (cs : List Nat) (F : Value → Prop) : zk_fld (zk_view E (J, N, Q, O, U) (zk_ad E 0)) cs 4 F = (9 ∈ cs ∧ F (.int (J 0 4))) := by rw [zk_view_ad (by decide)]; rfl
theorem zp_0_4 (cs : List Nat) (tag : Nat) (v : Value) (F : Prop) : zk_put (zk_view E (J, N, Q, O, U) (zk_ad E 0)) cs 4 tag v F = (9 ∈ cs ∧ zk_fok tag v ∧ F) := by rw [zk_view_ad (by decide)]; simp [zk_put, zk_cell]
theorem zo_0_4 (x : Int32) : zk_pfok E (J, N, Q, O, U) (zk_ad E 0) 4 (.int x) = True := by unfold zk_pfok; rw [zk_st_ad (by decide), zk_ad_sub]; simp [zk_jf]
theorem zq_0_4 (x : Int32) : zk_pf E (J, N, Q, O, U) (zk_ad E 0) 4 (.int x) = (zk_uj J 0 4 x, N, Q, O, U) := by unfold zk_pf; rw [zk_st_ad (by decide), zk_ad_sub]
theorem zi_0 (k : Nat → Bool) : zk_is (zk_view E (J, N, Q, O, U) (zk_ad E 0)) k = (k 9 = true) := by rw [zk_view_ad (by decide)]; rfl
theorem zf_1_0 (cs : List Nat) (F : Value → Prop) : zk_fld (zk_view E (J, N, Q, O, U) (zk_ad E 1)) cs 0 F = (4 ∈ cs ∧ F (.ref (zk_ad E 2))) := by rw [zk_view_ad (by decide)]; rfl
theorem zf_1_1 (cs : List Nat) (F : Value → Prop) : zk_fld (zk_view E (J, N, Q, O, U) (zk_ad E 1)) cs 1 F = (4 ∈ cs ∧ F (.ref (zk_ad E 3))) := by rw [zk_view_ad (by decide)]; rfl
theorem zf_1_2 (cs : List Nat) (F : Value → Prop) : zk_fld (zk_view E (J, N, Q, O, U) (zk_ad E 1)) cs 2 F = (4 ∈ cs ∧ F (.ref (zk_ad E 4))) := by rw [zk_view_ad (by decide)]; rfl
theorem zf_1_3 (cs : List Nat) (F : Value → Prop) : zk_fld (zk_view E (J, N, Q, O, U) (zk_ad E 1)) cs 3 F = (4 ∈ cs ∧ F (.ref (zk_ad E 5))) := by rw [zk_view_ad (by decide)]; rfl
theorem zf_1_4 (cs : List Nat) (F : Value → Prop) : zk_fld (zk_view E (J, N, Q, O, U) (zk_ad E 1)) cs 4 F = (4 ∈ cs ∧ F (.ref (zk_ad E 6))) := by rw [zk_view_ad (by decide)]; rfl
theorem zf_1_5 (cs : List Nat) (F : Value → Prop) : zk_fld (zk_view E (J, N, Q, O, U) (zk_ad E 1)) cs 5 F = (4 ∈ cs ∧ F (.int (J 1 5))) := by rw [zk_view_ad (by decide)]; rfl
theorem zp_1_5 (cs : List Nat) (tag : Nat) (v : Value) (F : Prop) : zk_put (zk_view E (J, N, Q, O, U) (zk_ad E 1)) cs 5 tag v F = (4 ∈ cs ∧ zk_fok tag v ∧ F) := by rw [zk_view_ad (by decide)]; simp [zk_put, zk_cell]
theorem zo_1_5 (x : Int32) : zk_pfok E (J, N, Q, O, U) (zk_ad E 1) 5 (.int x) = True := by unfold zk_pfok; rw [zk_st_ad (by decide), zk_ad_sub]; simp [zk_jf]
theorem zq_1_5 (x : Int32) : zk_pf E (J, N, Q, O, U) (zk_ad E 1) 5 (.int x) = (zk_uj J 1 5 x, N, Q, O, U) := by unfold zk_pf; rw [zk_st_ad (by decide), zk_ad_sub]
theorem zf_1_6 (cs : List Nat) (F : Value → Prop) : zk_fld (zk_view E (J, N, Q, O, U) (zk_ad E 1)) cs 6 F = (4 ∈ cs ∧ F (.int (J 1 6))) := by rw [zk_view_ad (by decide)]; rfl
theorem zp_1_6 (cs : List Nat) (tag : Nat) (v : Value) (F : Prop) : zk_put (zk_view E (J, N, Q, O, U) (zk_ad E 1)) cs 6 tag v F = (4 ∈ cs ∧ zk_fok tag v ∧ F) := by rw [zk_view_ad (by decide)]; simp [zk_put, zk_cell]
theorem zo_1_6 (x : Int32) : zk_pfok E (J, N, Q, O, U) (zk_ad E 1) 6 (.int x) = True := by unfold zk_pfok; rw [zk_st_ad (by decide), zk_ad_sub]; simp [zk_jf]
theorem zq_1_6 (x : Int32) : zk_pf E (J, N, Q, O, U) (zk_ad E 1) 6 (.int x) = (zk_uj J 1 6 x, N, Q, O, U) := by unfold zk_pf; rw [zk_st_ad (by decide), zk_ad_sub]
theorem zf_1_7 (cs : List Nat) (F : Value → Prop) : zk_fld (zk_view E (J, N, Q, O, U) (zk_ad E 1)) cs 7 F = (4 ∈ cs ∧ F (.int (J 1 7))) := by rw [zk_view_ad (by decide)]; rfl
theorem zp_1_7 (cs : List Nat) (tag : Nat) (v : Value) (F : Prop) : zk_put (zk_view E (J, N, Q, O, U) (zk_ad E 1)) cs 7 tag v F = (4 ∈ cs ∧ zk_fok tag v ∧ F) := by rw [zk_view_ad (by decide)]; simp [zk_put, zk_cell]
theorem zo_1_7 (x : Int32) : zk_pfok E (J, N, Q, O, U) (zk_ad E 1) 7 (.int x) = True := by unfold zk_pfok; rw [zk_st_ad (by decide), zk_ad_sub]; simp [zk_jf]
theorem zq_1_7 (x : Int32) : zk_pf E (J, N, Q, O, U) (zk_ad E 1) 7 (.int x) = (zk_uj J 1 7 x, N, Q, O, U) := by unfold zk_pf; rw [zk_st_ad (by decide), zk_ad_sub]
theorem zf_1_8 (cs : List Nat) (F : Value → Prop) : zk_fld (zk_view E (J, N, Q, O, U) (zk_ad E 1)) cs 8 F = (4 ∈ cs ∧ F (.int (J 1 8))) := by rw [zk_view_ad (by decide)]; rfl
theorem zp_1_8 (cs : List Nat) (tag : Nat) (v : Value) (F : Prop) : zk_put (zk_view E (J, N, Q, O, U) (zk_ad E 1)) cs 8 tag v F = (4 ∈ cs ∧ zk_fok tag v ∧ F) := by rw [zk_view_ad (by decide)]; simp [zk_put, zk_cell]
theorem zo_1_8 (x : Int32) : zk_pfok E (J, N, Q, O, U) (zk_ad E 1) 8 (.int x) = True := by unfold zk_pfok; rw [zk_st_ad (by decide), zk_ad_sub]; simp [zk_jf]
theorem zq_1_8 (x : Int32) : zk_pf E (J, N, Q, O, U) (zk_ad E 1) 8 (.int x) = (zk_uj J 1 8 x, N, Q, O, U) := by unfold zk_pf; rw [zk_st_ad (by decide), zk_ad_sub]
theorem zi_1 (k : Nat → Bool) : zk_is (zk_view E (J, N, Q, O, U) (zk_ad E 1)) k = (k 4 = true) := by rw [zk_view_ad (by decide)]; rfl
theorem zf_7_0 (cs : List Nat) (F : Value → Prop) : zk_fld (zk_view E (J, N, Q, O, U) (zk_ad E 7)) cs 0 F = (7 ∈ cs ∧ F (.ref (zk_ad E 8))) := by rw [zk_view_ad (by decide)]; rfl
theorem zf_7_1 (cs : List Nat) (F : Value → Prop) : zk_fld (zk_view E (J, N, Q, O, U) (zk_ad E 7)) cs 1 F = (7 ∈ cs ∧ F (.ref (zk_ad E 9))) := by rw [zk_view_ad (by decide)]; rfl
theorem zf_7_2 (cs : List Nat) (F : Value → Prop) : zk_fld (zk_view E (J, N, Q, O, U) (zk_ad E 7)) cs 2 F = (7 ∈ cs ∧ F (.ref (zk_ad E 10))) := by rw [zk_view_ad (by decide)]; rfl
theorem zf_7_3 (cs : List Nat) (F : Value → Prop) : zk_fld (zk_view E (J, N, Q, O, U) (zk_ad E 7)) cs 3 F = (7 ∈ cs ∧ F (.ref (zk_ad E 11))) := by rw [zk_view_ad (by decide)]; rfl
theorem zf_7_4 (cs : List Nat) (F : Value → Prop) : zk_fld (zk_view E (J, N, Q, O, U) (zk_ad E 7)) cs 4 F = (7 ∈ cs ∧ F (.ref (zk_ad E 12))) := by rw [zk_view_ad (by decide)]; rfl
theorem zf_7_5 (cs : List Nat) (F : Value → Prop) : zk_fld (zk_view E (J, N, Q, O, U) (zk_ad E 7)) cs 5 F = (7 ∈ cs ∧ F (.ref (zk_ad E 13))) := by rw [zk_view_ad (by decide)]; rfl
theorem zf_7_6 (cs : List Nat) (F : Value → Prop) : zk_fld (zk_view E (J, N, Q, O, U) (zk_ad E 7)) cs 6 F = (7 ∈ cs ∧ F (.ref (zk_ad E 14))) := by rw [zk_view_ad (by decide)]; rfl
theorem zi_7 (k : Nat → Bool) : zk_is (zk_view E (J, N, Q, O, U) (zk_ad E 7)) k = (k 7 = true) := by rw [zk_view_ad (by decide)]; rfl
theorem zf_15_0 (cs : List Nat) (F : Value → Prop) : zk_fld (zk_view E (J, N, Q, O, U) (zk_ad E 15)) cs 0 F = (0 ∈ cs ∧ F (.ref (zk_ad E 16))) := by rw [zk_view_ad (by decide)]; rfl
theorem zf_15_1 (cs : List Nat) (F : Value → Prop) : zk_fld (zk_view E (J, N, Q, O, U) (zk_ad E 15)) cs 1 F = (0 ∈ cs ∧ F (.ref (zk_ad E 17))) := by rw [zk_view_ad (by decide)]; rfl
theorem zi_15 (k : Nat → Bool) : zk_is (zk_view E (J, N, Q, O, U) (zk_ad E 15)) k = (k 0 = true) := by rw [zk_view_ad (by decide)]; rfl
theorem zf_18_0 (cs : List Nat) (F : Value → Prop) : zk_fld (zk_view E (J, N, Q, O, U) (zk_ad E 18)) cs 0 F = (2 ∈ cs ∧ F (.ref (zk_ad E 19))) := by rw [zk_view_ad (by decide)]; rfl
theorem zf_18_1 (cs : List Nat) (F : Value → Prop) : zk_fld (zk_view E (J, N, Q, O, U) (zk_ad E 18)) cs 1 F = (2 ∈ cs ∧ F (.ref (zk_ad E 20))) := by rw [zk_view_ad (by decide)]; rfl
theorem zf_18_2 (cs : List Nat) (F : Value → Prop) : zk_fld (zk_view E (J, N, Q, O, U) (zk_ad E 18)) cs 2 F = (2 ∈ cs ∧ F (.ref (zk_ad E 21))) := by rw [zk_view_ad (by decide)]; rfl
theorem zf_18_3 (cs : List Nat) (F : Value → Prop) : zk_fld (zk_view E (J, N, Q, O, U) (zk_ad E 18)) cs 3 F = (2 ∈ cs ∧ F (.int (J 18 3))) := by rw [zk_view_ad (by decide)]; rfl
theorem zp_18_3 (cs : List Nat) (tag : Nat) (v : Value) (F : Prop) : zk_put (zk_view E (J, N, Q, O, U) (zk_ad E 18)) cs 3 tag v F = (2 ∈ cs ∧ zk_fok tag v ∧ F) := by rw [zk_view_ad (by decide)]; simp [zk_put, zk_cell]
theorem zo_18_3 (x : Int32) : zk_pfok E (J, N, Q, O, U) (zk_ad E 18) 3 (.int x) = True := by unfold zk_pfok; rw [zk_st_ad (by decide), zk_ad_sub]; simp [zk_jf]
theorem zq_18_3 (x : Int32) : zk_pf E (J, N, Q, O, U) (zk_ad E 18) 3 (.int x) = (zk_uj J 18 3 x, N, Q, O, U) := by unfold zk_pf; rw [zk_st_ad (by decide), zk_ad_sub]
theorem zi_18 (k : Nat → Bool) : zk_is (zk_view E (J, N, Q, O, U) (zk_ad E 18)) k = (k 2 = true) := by rw [zk_view_ad (by decide)]; rfl
theorem zf_22_0 (cs : List Nat) (F : Value → Prop) : zk_fld (zk_view E (J, N, Q, O, U) (zk_ad E 22)) cs 0 F = (10 ∈ cs ∧ F (.int (J 22 0))) := by rw [zk_view_ad (by decide)]; rfl
theorem zp_22_0 (cs : List Nat) (tag : Nat) (v : Value) (F : Prop) : zk_put (zk_view E (J, N, Q, O, U) (zk_ad E 22)) cs 0 tag v F = (10 ∈ cs ∧ zk_fok tag v ∧ F) := by rw [zk_view_ad (by decide)]; simp [zk_put, zk_cell]
theorem zo_22_0 (x : Int32) : zk_pfok E (J, N, Q, O, U) (zk_ad E 22) 0 (.int x) = True := by unfold zk_pfok; rw [zk_st_ad (by decide), zk_ad_sub]; simp [zk_jf]
theorem zq_22_0 (x : Int32) : zk_pf E (J, N, Q, O, U) (zk_ad E 22) 0 (.int x) = (zk_uj J 22 0 x, N, Q, O, U) := by unfold zk_pf; rw [zk_st_ad (by decide), zk_ad_sub]
theorem zf_22_1 (cs : List Nat) (F : Value → Prop) : zk_fld (zk_view E (J, N, Q, O, U) (zk_ad E 22)) cs 1 F = (10 ∈ cs ∧ F (.int (J 22 1))) := by rw [zk_view_ad (by decide)]; rfl
theorem zp_22_1 (cs : List Nat) (tag : Nat) (v : Value) (F : Prop) : zk_put (zk_view E (J, N, Q, O, U) (zk_ad E 22)) cs 1 tag v F = (10 ∈ cs ∧ zk_fok tag v ∧ F) := by rw [zk_view_ad (by decide)]; simp [zk_put, zk_cell]
theorem zo_22_1 (x : Int32) : zk_pfok E (J, N, Q, O, U) (zk_ad E 22) 1 (.int x) = True := by unfold zk_pfok; rw [zk_st_ad (by decide), zk_ad_sub]; simp [zk_jf]
theorem zq_22_1 (x : Int32) : zk_pf E (J, N, Q, O, U) (zk_ad E 22) 1 (.int x) = (zk_uj J 22 1 x, N, Q, O, U) := by unfold zk_pf; rw [zk_st_ad (by decide), zk_ad_sub]
theorem zf_22_2 (cs : List Nat) (F : Value → Prop) : zk_fld (zk_view E (J, N, Q, O, U) (zk_ad E 22)) cs 2 F = (10 ∈ cs ∧ F (.ref (zk_ad E 23))) := by rw [zk_view_ad (by decide)]; rfl
theorem zf_22_3 (cs : List Nat) (F : Value → Prop) : zk_fld (zk_view E (J, N, Q, O, U) (zk_ad E 22)) cs 3 F = (10 ∈ cs ∧ F (.ref (zk_ad E 24))) := by rw [zk_view_ad (by decide)]; rfl
theorem zf_22_4 (cs : List Nat) (F : Value → Prop) : zk_fld (zk_view E (J, N, Q, O, U) (zk_ad E 22)) cs 4 F = (10 ∈ cs ∧ F (.ref (zk_ad E 25))) := by rw [zk_view_ad (by decide)]; rfl
theorem zf_22_5 (cs : List Nat) (F : Value → Prop) : zk_fld (zk_view E (J, N, Q, O, U) (zk_ad E 22)) cs 5 F = (10 ∈ cs ∧ F (.ref (zk_ad E 26))) := by rw [zk_view_ad (by decide)]; rfl
theorem zf_22_6 (cs : List Nat) (F : Value → Prop) : zk_fld (zk_view E (J, N, Q, O, U) (zk_ad E 22)) cs 6 F = (10 ∈ cs ∧ F (.ref (zk_ad E 27))) := by rw [zk_view_ad (by decide)]; rfl
theorem zf_22_7 (cs : List Nat) (F : Value → Prop) : zk_fld (zk_view E (J, N, Q, O, U) (zk_ad E 22)) cs 7 F = (10 ∈ cs ∧ F (.ref (zk_ad E 28))) := by rw [zk_view_ad (by decide)]; rfl
theorem zf_22_8 (cs : List Nat) (F : Value → Prop) : zk_fld (zk_view E (J, N, Q, O, U) (zk_ad E 22)) cs 8 F = (10 ∈ cs ∧ F (.ref (zk_ad E 29))) := by rw [zk_view_ad (by decide)]; rfl
theorem zf_22_9 (cs : List Nat) (F : Value → Prop) : zk_fld (zk_view E (J, N, Q, O, U) (zk_ad E 22)) cs 9 F = (10 ∈ cs ∧ F (.int (J 22 9))) := by rw [zk_view_ad (by decide)]; rfl
theorem zp_22_9 (cs : List Nat) (tag : Nat) (v : Value) (F : Prop) : zk_put (zk_view E (J, N, Q, O, U) (zk_ad E 22)) cs 9 tag v F = (10 ∈ cs ∧ zk_fok tag v ∧ F) := by rw [zk_view_ad (by decide)]; simp [zk_put, zk_cell]
theorem zo_22_9 (x : Int32) : zk_pfok E (J, N, Q, O, U) (zk_ad E 22) 9 (.int x) = True := by unfold zk_pfok; rw [zk_st_ad (by decide), zk_ad_sub]; simp [zk_jf]
theorem zq_22_9 (x : Int32) : zk_pf E (J, N, Q, O, U) (zk_ad E 22) 9 (.int x) = (zk_uj J 22 9 x, N, Q, O, U) := by unfold zk_pf; rw [zk_st_ad (by decide), zk_ad_sub]
theorem zf_22_10 (cs : List Nat) (F : Value → Prop) : zk_fld (zk_view E (J, N, Q, O, U) (zk_ad E 22)) cs 10 F = (10 ∈ cs ∧ F (.ref (zk_ad E 30))) := by rw [zk_view_ad (by decide)]; rfl
theorem zf_22_11 (cs : List Nat) (F : Value → Prop) : zk_fld (zk_view E (J, N, Q, O, U) (zk_ad E 22)) cs 11 F = (10 ∈ cs ∧ F (.ref (zk_ad E 31))) := by rw [zk_view_ad (by decide)]; rfl
theorem zf_22_12 (cs : List Nat) (F : Value → Prop) : zk_fld (zk_view E (J, N, Q, O, U) (zk_ad E 22)) cs 12 F = (10 ∈ cs ∧ F (.ref (zk_ad E 32))) := by rw [zk_view_ad (by decide)]; rfl
theorem zf_22_13 (cs : List Nat) (F : Value → Prop) : zk_fld (zk_view E (J, N, Q, O, U) (zk_ad E 22)) cs 13 F = (10 ∈ cs ∧ F (.ref (zk_ad E 33))) := by rw [zk_view_ad (by decide)]; rfl
theorem zf_22_14 (cs : List Nat) (F : Value → Prop) : zk_fld (zk_view E (J, N, Q, O, U) (zk_ad E 22)) cs 14 F = (10 ∈ cs ∧ F (.ref (zk_ad E 34))) := by rw [zk_view_ad (by decide)]; rfl
theorem zf_22_15 (cs : List Nat) (F : Value → Prop) : zk_fld (zk_view E (J, N, Q, O, U) (zk_ad E 22)) cs 15 F = (10 ∈ cs ∧ F (.ref (zk_ad E 35))) := by rw [zk_view_ad (by decide)]; rfl
theorem zf_22_16 (cs : List Nat) (F : Value → Prop) : zk_fld (zk_view E (J, N, Q, O, U) (zk_ad E 22)) cs 16 F = (10 ∈ cs ∧ F (.ref (zk_ad E 36))) := by rw [zk_view_ad (by decide)]; rfl
theorem zf_22_17 (cs : List Nat) (F : Value → Prop) : zk_fld (zk_view E (J, N, Q, O, U) (zk_ad E 22)) cs 17 F = (10 ∈ cs ∧ F (.int (J 22 17))) := by rw [zk_view_ad (by decide)]; rfl
theorem zp_22_17 (cs : List Nat) (tag : Nat) (v : Value) (F : Prop) : zk_put (zk_view E (J, N, Q, O, U) (zk_ad E 22)) cs 17 tag v F = (10 ∈ cs ∧ zk_fok tag v ∧ F) := by rw [zk_view_ad (by decide)]; simp [zk_put, zk_cell]
theorem zo_22_17 (x : Int32) : zk_pfok E (J, N, Q, O, U) (zk_ad E 22) 17 (.int x) = True := by unfold zk_pfok; rw [zk_st_ad (by decide), zk_ad_sub]; simp [zk_jf]
theorem zq_22_17 (x : Int32) : zk_pf E (J, N, Q, O, U) (zk_ad E 22) 17 (.int x) = (zk_uj J 22 17 x, N, Q, O, U) := by unfold zk_pf; rw [zk_st_ad (by decide), zk_ad_sub]
theorem zf_22_18 (cs : List Nat) (F : Value → Prop) : zk_fld (zk_view E (J, N, Q, O, U) (zk_ad E 22)) cs 18 F = (10 ∈ cs ∧ F (.ref (zk_ad E 37))) := by rw [zk_view_ad (by decide)]; rfl
theorem zf_22_19 (cs : List Nat) (F : Value → Prop) : zk_fld (zk_view E (J, N, Q, O, U) (zk_ad E 22)) cs 19 F = (10 ∈ cs ∧ F (.ref (zk_ad E 38))) := by rw [zk_view_ad (by decide)]; rfl
theorem zf_22_20 (cs : List Nat) (F : Value → Prop) : zk_fld (zk_view E (J, N, Q, O, U) (zk_ad E 22)) cs 20 F = (10 ∈ cs ∧ F (.ref (zk_ad E 39))) := by rw [zk_view_ad (by decide)]; rfl
theorem zf_22_21 (cs : List Nat) (F : Value → Prop) : zk_fld (zk_view E (J, N, Q, O, U) (zk_ad E 22)) cs 21 F = (10 ∈ cs ∧ F (.ref (zk_ad E 40))) := by rw [zk_view_ad (by decide)]; rfl
theorem zf_22_22 (cs : List Nat) (F : Value → Prop) : zk_fld (zk_view E (J, N, Q, O, U) (zk_ad E 22)) cs 22 F = (10 ∈ cs ∧ F (.ref (zk_ad E 41))) := by rw [zk_view_ad (by decide)]; rfl
theorem zf_22_23 (cs : List Nat) (F : Value → Prop) : zk_fld (zk_view E (J, N, Q, O, U) (zk_ad E 22)) cs 23 F = (10 ∈ cs ∧ F (.int (J 22 23))) := by rw [zk_view_ad (by decide)]; rfl
theorem zp_22_23 (cs : List Nat) (tag : Nat) (v : Value) (F : Prop) : zk_put (zk_view E (J, N, Q, O, U) (zk_ad E 22)) cs 23 tag v F = (10 ∈ cs ∧ zk_fok tag v ∧ F) := by rw [zk_view_ad (by decide)]; simp [zk_put, zk_cell]
theorem zo_22_23 (x : Int32) : zk_pfok E (J, N, Q, O, U) (zk_ad E 22) 23 (.int x) = True := by unfold zk_pfok; rw [zk_st_ad (by decide), zk_ad_sub]; simp [zk_jf]
theorem zq_22_23 (x : Int32) : zk_pf E (J, N, Q, O, U) (zk_ad E 22) 23 (.int x) = (zk_uj J 22 23 x, N, Q, O, U) := by unfold zk_pf; rw [zk_st_ad (by decide), zk_ad_sub]
theorem zf_22_24 (cs : List Nat) (F : Value → Prop) : zk_fld (zk_view E (J, N, Q, O, U) (zk_ad E 22)) cs 24 F = (10 ∈ cs ∧ F (.ref (zk_ad E 42))) := by rw [zk_view_ad (by decide)]; rfl
theorem zf_22_25 (cs : List Nat) (F : Value → Prop) : zk_fld (zk_view E (J, N, Q, O, U) (zk_ad E 22)) cs 25 F = (10 ∈ cs ∧ F (.ref (zk_ad E 43))) := by rw [zk_view_ad (by decide)]; rfl
theorem zf_22_26 (cs : List Nat) (F : Value → Prop) : zk_fld (zk_view E (J, N, Q, O, U) (zk_ad E 22)) cs 26 F = (10 ∈ cs ∧ F (.ref (zk_ad E 44))) := by rw [zk_view_ad (by decide)]; rfl
theorem zf_22_27 (cs : List Nat) (F : Value → Prop) : zk_fld (zk_view E (J, N, Q, O, U) (zk_ad E 22)) cs 27 F = (10 ∈ cs ∧ F (.ref (zk_ad E 45))) := by rw [zk_view_ad (by decide)]; rfl
theorem zf_22_28 (cs : List Nat) (F : Value → Prop) : zk_fld (zk_view E (J, N, Q, O, U) (zk_ad E 22)) cs 28 F = (10 ∈ cs ∧ F (.ref (zk_ad E 46))) := by rw [zk_view_ad (by decide)]; rfl
theorem zf_22_29 (cs : List Nat) (F : Value → Prop) : zk_fld (zk_view E (J, N, Q, O, U) (zk_ad E 22)) cs 29 F = (10 ∈ cs ∧ F (.ref (zk_ad E 47))) := by rw [zk_view_ad (by decide)]; rfl
theorem zf_22_30 (cs : List Nat) (F : Value → Prop) : zk_fld (zk_view E (J, N, Q, O, U) (zk_ad E 22)) cs 30 F = (10 ∈ cs ∧ F (.ref (zk_ad E 48))) := by rw [zk_view_ad (by decide)]; rfl
theorem zf_22_31 (cs : List Nat) (F : Value → Prop) : zk_fld (zk_view E (J, N, Q, O, U) (zk_ad E 22)) cs 31 F = (10 ∈ cs ∧ F (.ref (zk_ad E 49))) := by rw [zk_view_ad (by decide)]; rfl
theorem zf_22_32 (cs : List Nat) (F : Value → Prop) : zk_fld (zk_view E (J, N, Q, O, U) (zk_ad E 22)) cs 32 F = (10 ∈ cs ∧ F (.ref (zk_ad E 50))) := by rw [zk_view_ad (by decide)]; rfl
theorem zf_22_33 (cs : List Nat) (F : Value → Prop) : zk_fld (zk_view E (J, N, Q, O, U) (zk_ad E 22)) cs 33 F = (10 ∈ cs ∧ F (.int (J 22 33))) := by rw [zk_view_ad (by decide)]; rfl
theorem zp_22_33 (cs : List Nat) (tag : Nat) (v : Value) (F : Prop) : zk_put (zk_view E (J, N, Q, O, U) (zk_ad E 22)) cs 33 tag v F = (10 ∈ cs ∧ zk_fok tag v ∧ F) := by rw [zk_view_ad (by decide)]; simp [zk_put, zk_cell]
theorem zo_22_33 (x : Int32) : zk_pfok E (J, N, Q, O, U) (zk_ad E 22) 33 (.int x) = True := by unfold zk_pfok; rw [zk_st_ad (by decide), zk_ad_sub]; simp [zk_jf]
theorem zq_22_33 (x : Int32) : zk_pf E (J, N, Q, O, U) (zk_ad E 22) 33 (.int x) = (zk_uj J 22 33 x, N, Q, O, U) := by unfold zk_pf; rw [zk_st_ad (by decide), zk_ad_sub]
theorem zf_22_34 (cs : List Nat) (F : Value → Prop) : zk_fld (zk_view E (J, N, Q, O, U) (zk_ad E 22)) cs 34 F = (10 ∈ cs ∧ F (.ref (zk_ad E 51))) := by rw [zk_view_ad (by decide)]; rfl
theorem zf_22_35 (cs : List Nat) (F : Value → Prop) : zk_fld (zk_view E (J, N, Q, O, U) (zk_ad E 22)) cs 35 F = (10 ∈ cs ∧ F (.int (J 22 35))) := by rw [zk_view_ad (by decide)]; rfl
theorem zp_22_35 (cs : List Nat) (tag : Nat) (v : Value) (F : Prop) : zk_put (zk_view E (J, N, Q, O, U) (zk_ad E 22)) cs 35 tag v F = (10 ∈ cs ∧ zk_fok tag v ∧ F) := by rw [zk_view_ad (by decide)]; simp [zk_put, zk_cell]
theorem zo_22_35 (x : Int32) : zk_pfok E (J, N, Q, O, U) (zk_ad E 22) 35 (.int x) = True := by unfold zk_pfok; rw [zk_st_ad (by decide), zk_ad_sub]; simp [zk_jf]
theorem zq_22_35 (x : Int32) : zk_pf E (J, N, Q, O, U) (zk_ad E 22) 35 (.int x) = (zk_uj J 22 35 x, N, Q, O, U) := by unfold zk_pf; rw [zk_st_ad (by decide), zk_ad_sub]
theorem zf_22_36 (cs : List Nat) (F : Value → Prop) : zk_fld (zk_view E (J, N, Q, O, U) (zk_ad E 22)) cs 36 F = (10 ∈ cs ∧ F (.ref (zk_ad E 52))) := by rw [zk_view_ad (by decide)]; rfl
theorem zf_22_37 (cs : List Nat) (F : Value → Prop) : zk_fld (zk_view E (J, N, Q, O, U) (zk_ad E 22)) cs 37 F = (10 ∈ cs ∧ F (.ref (zk_ad E 53))) := by rw [zk_view_ad (by decide)]; rfl
theorem zi_22 (k : Nat → Bool) : zk_is (zk_view E (J, N, Q, O, U) (zk_ad E 22)) k = (k 10 = true) := by rw [zk_view_ad (by decide)]; rfl
theorem zl_2 (F : Int32 → Prop) : zk_lenq E (zk_view E (J, N, Q, O, U) (zk_ad E 2)) F = F (Int32.ofNat 20) := by rw [zk_view_ad (by decide)]; simp [zk_lenq, zk_cell]
theorem za_2 (i : Int32) (F : Option Nat → Prop) : zk_qld (zk_view E (J, N, Q, O, U) (zk_ad E 2)) i [zk_ar E 3, zk_ar E 4, zk_ar E 5, zk_ar E 6] F = (vp_in i 20 ∧ F (Q 2 i.toNatClampNeg)) := by rw [zk_view_ad (by decide)]; simp [zk_qld, zk_cell]
theorem zs_2 (i : Int32) (v : Nat) (fs : List Value) (F : va_E → Prop) : zk_qst E (zk_view E (J, N, Q, O, U) (zk_ad E 2)) (some (.inr (5, fs))) i v F = (vp_in i 20 ∧ F (.inl (zk_ar E 3, 20, .inr (.inr (.inr (.inr (va_up (Q 2) i.toNatClampNeg (some v)))))))) := by rw [zk_view_ad (by decide)]; simp [zk_qst, zk_cell, zk_qc, zk_ar]
theorem zn_2 (i : Int32) (F : va_E → Prop) : zk_qsn (zk_view E (J, N, Q, O, U) (zk_ad E 2)) i [zk_ar E 3, zk_ar E 4, zk_ar E 5, zk_ar E 6] F = (vp_in i 20 ∧ F (.inl (zk_ar E 3, 20, .inr (.inr (.inr (.inr (va_up (Q 2) i.toNatClampNeg none))))))) := by rw [zk_view_ad (by decide)]; simp [zk_qsn, zk_cell]
theorem zw_2 (g : Nat → Option Nat) : zk_wrok E (J, N, Q, O, U) (zk_ad E 2) (.inl (zk_ar E 3, 20, .inr (.inr (.inr (.inr g))))) = True := by unfold zk_wrok; rw [zk_st_ad (by decide)]; dsimp only; rw [zk_view_ad (by decide)]; simp [zk_like, zk_cell]
theorem zx_2 (g : Nat → Option Nat) : zk_wr E (J, N, Q, O, U) (zk_ad E 2) (.inl (zk_ar E 3, 20, .inr (.inr (.inr (.inr g))))) = (J, N, zk_un Q 2 g, O, U) := by unfold zk_wr; rw [zk_st_ad (by decide)]; try (simp only [zk_ad_sub])
theorem zl_3 (F : Int32 → Prop) : zk_lenq E (zk_view E (J, N, Q, O, U) (zk_ad E 3)) F = F (Int32.ofNat 40) := by rw [zk_view_ad (by decide)]; simp [zk_lenq, zk_cell]
theorem za_3 (i : Int32) (F : Option Nat → Prop) : zk_qld (zk_view E (J, N, Q, O, U) (zk_ad E 3)) i [zk_ar E 3, zk_ar E 4, zk_ar E 5, zk_ar E 6] F = (vp_in i 40 ∧ F (Q 3 i.toNatClampNeg)) := by rw [zk_view_ad (by decide)]; simp [zk_qld, zk_cell]
theorem zs_3 (i : Int32) (v : Nat) (fs : List Value) (F : va_E → Prop) : zk_qst E (zk_view E (J, N, Q, O, U) (zk_ad E 3)) (some (.inr (1, fs))) i v F = (vp_in i 40 ∧ F (.inl (zk_ar E 4, 40, .inr (.inr (.inr (.inr (va_up (Q 3) i.toNatClampNeg (some v)))))))) := by rw [zk_view_ad (by decide)]; simp [zk_qst, zk_cell, zk_qc, zk_ar]
theorem zn_3 (i : Int32) (F : va_E → Prop) : zk_qsn (zk_view E (J, N, Q, O, U) (zk_ad E 3)) i [zk_ar E 3, zk_ar E 4, zk_ar E 5, zk_ar E 6] F = (vp_in i 40 ∧ F (.inl (zk_ar E 4, 40, .inr (.inr (.inr (.inr (va_up (Q 3) i.toNatClampNeg none))))))) := by rw [zk_view_ad (by decide)]; simp [zk_qsn, zk_cell]
theorem zw_3 (g : Nat → Option Nat) : zk_wrok E (J, N, Q, O, U) (zk_ad E 3) (.inl (zk_ar E 4, 40, .inr (.inr (.inr (.inr g))))) = True := by unfold zk_wrok; rw [zk_st_ad (by decide)]; dsimp only; rw [zk_view_ad (by decide)]; simp [zk_like, zk_cell]
theorem zx_3 (g : Nat → Option Nat) : zk_wr E (J, N, Q, O, U) (zk_ad E 3) (.inl (zk_ar E 4, 40, .inr (.inr (.inr (.inr g))))) = (J, N, zk_un Q 3 g, O, U) := by unfold zk_wr; rw [zk_st_ad (by decide)]; try (simp only [zk_ad_sub])
theorem zl_4 (F : Int32 → Prop) : zk_lenq E (zk_view E (J, N, Q, O, U) (zk_ad E 4)) F = F (Int32.ofNat 40) := by rw [zk_view_ad (by decide)]; simp [zk_lenq, zk_cell]
theorem za_4 (i : Int32) (F : Option Nat → Prop) : zk_qld (zk_view E (J, N, Q, O, U) (zk_ad E 4)) i [zk_ar E 3, zk_ar E 4, zk_ar E 5, zk_ar E 6] F = (vp_in i 40 ∧ F (Q 4 i.toNatClampNeg)) := by rw [zk_view_ad (by decide)]; simp [zk_qld, zk_cell]
theorem zs_4 (i : Int32) (v : Nat) (fs : List Value) (F : va_E → Prop) : zk_qst E (zk_view E (J, N, Q, O, U) (zk_ad E 4)) (some (.inr (8, fs))) i v F = (vp_in i 40 ∧ F (.inl (zk_ar E 5, 40, .inr (.inr (.inr (.inr (va_up (Q 4) i.toNatClampNeg (some v)))))))) := by rw [zk_view_ad (by decide)]; simp [zk_qst, zk_cell, zk_qc, zk_ar]
theorem zn_4 (i : Int32) (F : va_E → Prop) : zk_qsn (zk_view E (J, N, Q, O, U) (zk_ad E 4)) i [zk_ar E 3, zk_ar E 4, zk_ar E 5, zk_ar E 6] F = (vp_in i 40 ∧ F (.inl (zk_ar E 5, 40, .inr (.inr (.inr (.inr (va_up (Q 4) i.toNatClampNeg none))))))) := by rw [zk_view_ad (by decide)]; simp [zk_qsn, zk_cell]
theorem zw_4 (g : Nat → Option Nat) : zk_wrok E (J, N, Q, O, U) (zk_ad E 4) (.inl (zk_ar E 5, 40, .inr (.inr (.inr (.inr g))))) = True := by unfold zk_wrok; rw [zk_st_ad (by decide)]; dsimp only; rw [zk_view_ad (by decide)]; simp [zk_like, zk_cell]
theorem zx_4 (g : Nat → Option Nat) : zk_wr E (J, N, Q, O, U) (zk_ad E 4) (.inl (zk_ar E 5, 40, .inr (.inr (.inr (.inr g))))) = (J, N, zk_un Q 4 g, O, U) := by unfold zk_wr; rw [zk_st_ad (by decide)]; try (simp only [zk_ad_sub])
theorem zl_5 (F : Int32 → Prop) : zk_lenq E (zk_view E (J, N, Q, O, U) (zk_ad E 5)) F = F (Int32.ofNat 10) := by rw [zk_view_ad (by decide)]; simp [zk_lenq, zk_cell]
theorem za_5 (i : Int32) (F : Option Nat → Prop) : zk_qld (zk_view E (J, N, Q, O, U) (zk_ad E 5)) i [zk_ar E 3, zk_ar E 4, zk_ar E 5, zk_ar E 6] F = (vp_in i 10 ∧ F (Q 5 i.toNatClampNeg)) := by rw [zk_view_ad (by decide)]; simp [zk_qld, zk_cell]
theorem zs_5 (i : Int32) (v : Nat) (fs : List Value) (F : va_E → Prop) : zk_qst E (zk_view E (J, N, Q, O, U) (zk_ad E 5)) (some (.inr (6, fs))) i v F = (vp_in i 10 ∧ F (.inl (zk_ar E 6, 10, .inr (.inr (.inr (.inr (va_up (Q 5) i.toNatClampNeg (some v)))))))) := by rw [zk_view_ad (by decide)]; simp [zk_qst, zk_cell, zk_qc, zk_ar]
theorem zn_5 (i : Int32) (F : va_E → Prop) : zk_qsn (zk_view E (J, N, Q, O, U) (zk_ad E 5)) i [zk_ar E 3, zk_ar E 4, zk_ar E 5, zk_ar E 6] F = (vp_in i 10 ∧ F (.inl (zk_ar E 6, 10, .inr (.inr (.inr (.inr (va_up (Q 5) i.toNatClampNeg none))))))) := by rw [zk_view_ad (by decide)]; simp [zk_qsn, zk_cell]
theorem zw_5 (g : Nat → Option Nat) : zk_wrok E (J, N, Q, O, U) (zk_ad E 5) (.inl (zk_ar E 6, 10, .inr (.inr (.inr (.inr g))))) = True := by unfold zk_wrok; rw [zk_st_ad (by decide)]; dsimp only; rw [zk_view_ad (by decide)]; simp [zk_like, zk_cell]
theorem zx_5 (g : Nat → Option Nat) : zk_wr E (J, N, Q, O, U) (zk_ad E 5) (.inl (zk_ar E 6, 10, .inr (.inr (.inr (.inr g))))) = (J, N, zk_un Q 5 g, O, U) := by unfold zk_wr; rw [zk_st_ad (by decide)]; try (simp only [zk_ad_sub])
theorem zl_6 (F : Int32 → Prop) : zk_lenq E (zk_view E (J, N, Q, O, U) (zk_ad E 6)) F = F (Int32.ofNat 10) := by rw [zk_view_ad (by decide)]; simp [zk_lenq, zk_cell]
theorem za_6 (i : Int32) (F : Int32 → Prop) : zk_ild (zk_view E (J, N, Q, O, U) (zk_ad E 6)) (zk_ar E 0) i F = (vp_in i 10 ∧ F (N 6 i.toNatClampNeg)) := by rw [zk_view_ad (by decide)]; simp [zk_ild, zk_cell]
theorem zs_6 (i x : Int32) (F : va_E → Prop) : zk_ist (zk_view E (J, N, Q, O, U) (zk_ad E 6)) (zk_ar E 0) i x F = (vp_in i 10 ∧ F (.inl (zk_ar E 0, 10, .inl (upd (N 6) i.toNatClampNeg x)))) := by rw [zk_view_ad (by decide)]; simp [zk_ist, zk_cell]
theorem zw_6 (g : Nat → Int32) : zk_wrok E (J, N, Q, O, U) (zk_ad E 6) (.inl (zk_ar E 0, 10, .inl g)) = True := by unfold zk_wrok; rw [zk_st_ad (by decide)]; dsimp only; rw [zk_view_ad (by decide)]; simp [zk_like, zk_cell]
theorem zx_6 (g : Nat → Int32) : zk_wr E (J, N, Q, O, U) (zk_ad E 6) (.inl (zk_ar E 0, 10, .inl g)) = (J, zk_un N 6 g, Q, O, U) := by unfold zk_wr; rw [zk_st_ad (by decide)]; try (simp only [zk_ad_sub])
theorem zl_8 (F : Int32 → Prop) : zk_lenq E (zk_view E (J, N, Q, O, U) (zk_ad E 8)) F = F (Int32.ofNat 50) := by rw [zk_view_ad (by decide)]; simp [zk_lenq, zk_cell]
theorem za_8 (i : Int32) (F : Int32 → Prop) : zk_ild (zk_view E (J, N, Q, O, U) (zk_ad E 8)) (zk_ar E 0) i F = (vp_in i 50 ∧ F (N 8 i.toNatClampNeg)) := by rw [zk_view_ad (by decide)]; simp [zk_ild, zk_cell]
theorem zs_8 (i x : Int32) (F : va_E → Prop) : zk_ist (zk_view E (J, N, Q, O, U) (zk_ad E 8)) (zk_ar E 0) i x F = (vp_in i 50 ∧ F (.inl (zk_ar E 0, 50, .inl (upd (N 8) i.toNatClampNeg x)))) := by rw [zk_view_ad (by decide)]; simp [zk_ist, zk_cell]
theorem zw_8 (g : Nat → Int32) : zk_wrok E (J, N, Q, O, U) (zk_ad E 8) (.inl (zk_ar E 0, 50, .inl g)) = True := by unfold zk_wrok; rw [zk_st_ad (by decide)]; dsimp only; rw [zk_view_ad (by decide)]; simp [zk_like, zk_cell]
theorem zx_8 (g : Nat → Int32) : zk_wr E (J, N, Q, O, U) (zk_ad E 8) (.inl (zk_ar E 0, 50, .inl g)) = (J, zk_un N 8 g, Q, O, U) := by unfold zk_wr; rw [zk_st_ad (by decide)]; try (simp only [zk_ad_sub])
theorem zl_9 (F : Int32 → Prop) : zk_lenq E (zk_view E (J, N, Q, O, U) (zk_ad E 9)) F = F (Int32.ofNat 50) := by rw [zk_view_ad (by decide)]; simp [zk_lenq, zk_cell]
theorem za_9 (i : Int32) (F : Int32 → Prop) : zk_ild (zk_view E (J, N, Q, O, U) (zk_ad E 9)) (zk_ar E 0) i F = (vp_in i 50 ∧ F (N 9 i.toNatClampNeg)) := by rw [zk_view_ad (by decide)]; simp [zk_ild, zk_cell]
theorem zs_9 (i x : Int32) (F : va_E → Prop) : zk_ist (zk_view E (J, N, Q, O, U) (zk_ad E 9)) (zk_ar E 0) i x F = (vp_in i 50 ∧ F (.inl (zk_ar E 0, 50, .inl (upd (N 9) i.toNatClampNeg x)))) := by rw [zk_view_ad (by decide)]; simp [zk_ist, zk_cell]
theorem zw_9 (g : Nat → Int32) : zk_wrok E (J, N, Q, O, U) (zk_ad E 9) (.inl (zk_ar E 0, 50, .inl g)) = True := by unfold zk_wrok; rw [zk_st_ad (by decide)]; dsimp only; rw [zk_view_ad (by decide)]; simp [zk_like, zk_cell]
theorem zx_9 (g : Nat → Int32) : zk_wr E (J, N, Q, O, U) (zk_ad E 9) (.inl (zk_ar E 0, 50, .inl g)) = (J, zk_un N 9 g, Q, O, U) := by unfold zk_wr; rw [zk_st_ad (by decide)]; try (simp only [zk_ad_sub])
theorem zl_10 (F : Int32 → Prop) : zk_lenq E (zk_view E (J, N, Q, O, U) (zk_ad E 10)) F = F (Int32.ofNat 50) := by rw [zk_view_ad (by decide)]; simp [zk_lenq, zk_cell]
theorem za_10 (i : Int32) (F : Int32 → Prop) : zk_ild (zk_view E (J, N, Q, O, U) (zk_ad E 10)) (zk_ar E 0) i F = (vp_in i 50 ∧ F (N 10 i.toNatClampNeg)) := by rw [zk_view_ad (by decide)]; simp [zk_ild, zk_cell]
theorem zs_10 (i x : Int32) (F : va_E → Prop) : zk_ist (zk_view E (J, N, Q, O, U) (zk_ad E 10)) (zk_ar E 0) i x F = (vp_in i 50 ∧ F (.inl (zk_ar E 0, 50, .inl (upd (N 10) i.toNatClampNeg x)))) := by rw [zk_view_ad (by decide)]; simp [zk_ist, zk_cell]
theorem zw_10 (g : Nat → Int32) : zk_wrok E (J, N, Q, O, U) (zk_ad E 10) (.inl (zk_ar E 0, 50, .inl g)) = True := by unfold zk_wrok; rw [zk_st_ad (by decide)]; dsimp only; rw [zk_view_ad (by decide)]; simp [zk_like, zk_cell]
theorem zx_10 (g : Nat → Int32) : zk_wr E (J, N, Q, O, U) (zk_ad E 10) (.inl (zk_ar E 0, 50, .inl g)) = (J, zk_un N 10 g, Q, O, U) := by unfold zk_wr; rw [zk_st_ad (by decide)]; try (simp only [zk_ad_sub])
theorem zl_11 (F : Int32 → Prop) : zk_lenq E (zk_view E (J, N, Q, O, U) (zk_ad E 11)) F = F (Int32.ofNat 20) := by rw [zk_view_ad (by decide)]; simp [zk_lenq, zk_cell]
theorem za_11 (i : Int32) (F : Int32 → Prop) : zk_ild (zk_view E (J, N, Q, O, U) (zk_ad E 11)) (zk_ar E 0) i F = (vp_in i 20 ∧ F (N 11 i.toNatClampNeg)) := by rw [zk_view_ad (by decide)]; simp [zk_ild, zk_cell]
theorem zs_11 (i x : Int32) (F : va_E → Prop) : zk_ist (zk_view E (J, N, Q, O, U) (zk_ad E 11)) (zk_ar E 0) i x F = (vp_in i 20 ∧ F (.inl (zk_ar E 0, 20, .inl (upd (N 11) i.toNatClampNeg x)))) := by rw [zk_view_ad (by decide)]; simp [zk_ist, zk_cell]
theorem zw_11 (g : Nat → Int32) : zk_wrok E (J, N, Q, O, U) (zk_ad E 11) (.inl (zk_ar E 0, 20, .inl g)) = True := by unfold zk_wrok; rw [zk_st_ad (by decide)]; dsimp only; rw [zk_view_ad (by decide)]; simp [zk_like, zk_cell]
theorem zx_11 (g : Nat → Int32) : zk_wr E (J, N, Q, O, U) (zk_ad E 11) (.inl (zk_ar E 0, 20, .inl g)) = (J, zk_un N 11 g, Q, O, U) := by unfold zk_wr; rw [zk_st_ad (by decide)]; try (simp only [zk_ad_sub])
theorem zl_12 (F : Int32 → Prop) : zk_lenq E (zk_view E (J, N, Q, O, U) (zk_ad E 12)) F = F (Int32.ofNat 20) := by rw [zk_view_ad (by decide)]; simp [zk_lenq, zk_cell]
theorem za_12 (i : Int32) (F : Int32 → Prop) : zk_ild (zk_view E (J, N, Q, O, U) (zk_ad E 12)) (zk_ar E 0) i F = (vp_in i 20 ∧ F (N 12 i.toNatClampNeg)) := by rw [zk_view_ad (by decide)]; simp [zk_ild, zk_cell]
theorem zs_12 (i x : Int32) (F : va_E → Prop) : zk_ist (zk_view E (J, N, Q, O, U) (zk_ad E 12)) (zk_ar E 0) i x F = (vp_in i 20 ∧ F (.inl (zk_ar E 0, 20, .inl (upd (N 12) i.toNatClampNeg x)))) := by rw [zk_view_ad (by decide)]; simp [zk_ist, zk_cell]
theorem zw_12 (g : Nat → Int32) : zk_wrok E (J, N, Q, O, U) (zk_ad E 12) (.inl (zk_ar E 0, 20, .inl g)) = True := by unfold zk_wrok; rw [zk_st_ad (by decide)]; dsimp only; rw [zk_view_ad (by decide)]; simp [zk_like, zk_cell]
theorem zx_12 (g : Nat → Int32) : zk_wr E (J, N, Q, O, U) (zk_ad E 12) (.inl (zk_ar E 0, 20, .inl g)) = (J, zk_un N 12 g, Q, O, U) := by unfold zk_wr; rw [zk_st_ad (by decide)]; try (simp only [zk_ad_sub])
theorem zl_13 (F : Int32 → Prop) : zk_lenq E (zk_view E (J, N, Q, O, U) (zk_ad E 13)) F = F (Int32.ofNat 20) := by rw [zk_view_ad (by decide)]; simp [zk_lenq, zk_cell]
theorem za_13 (i : Int32) (F : Int32 → Prop) : zk_ild (zk_view E (J, N, Q, O, U) (zk_ad E 13)) (zk_ar E 0) i F = (vp_in i 20 ∧ F (N 13 i.toNatClampNeg)) := by rw [zk_view_ad (by decide)]; simp [zk_ild, zk_cell]
theorem zs_13 (i x : Int32) (F : va_E → Prop) : zk_ist (zk_view E (J, N, Q, O, U) (zk_ad E 13)) (zk_ar E 0) i x F = (vp_in i 20 ∧ F (.inl (zk_ar E 0, 20, .inl (upd (N 13) i.toNatClampNeg x)))) := by rw [zk_view_ad (by decide)]; simp [zk_ist, zk_cell]
theorem zw_13 (g : Nat → Int32) : zk_wrok E (J, N, Q, O, U) (zk_ad E 13) (.inl (zk_ar E 0, 20, .inl g)) = True := by unfold zk_wrok; rw [zk_st_ad (by decide)]; dsimp only; rw [zk_view_ad (by decide)]; simp [zk_like, zk_cell]
theorem zx_13 (g : Nat → Int32) : zk_wr E (J, N, Q, O, U) (zk_ad E 13) (.inl (zk_ar E 0, 20, .inl g)) = (J, zk_un N 13 g, Q, O, U) := by unfold zk_wr; rw [zk_st_ad (by decide)]; try (simp only [zk_ad_sub])
theorem zl_14 (F : Int32 → Prop) : zk_lenq E (zk_view E (J, N, Q, O, U) (zk_ad E 14)) F = F (Int32.ofNat 20) := by rw [zk_view_ad (by decide)]; simp [zk_lenq, zk_cell]
theorem za_14 (i : Int32) (F : Int32 → Prop) : zk_ild (zk_view E (J, N, Q, O, U) (zk_ad E 14)) (zk_ar E 0) i F = (vp_in i 20 ∧ F (N 14 i.toNatClampNeg)) := by rw [zk_view_ad (by decide)]; simp [zk_ild, zk_cell]
theorem zs_14 (i x : Int32) (F : va_E → Prop) : zk_ist (zk_view E (J, N, Q, O, U) (zk_ad E 14)) (zk_ar E 0) i x F = (vp_in i 20 ∧ F (.inl (zk_ar E 0, 20, .inl (upd (N 14) i.toNatClampNeg x)))) := by rw [zk_view_ad (by decide)]; simp [zk_ist, zk_cell]
theorem zw_14 (g : Nat → Int32) : zk_wrok E (J, N, Q, O, U) (zk_ad E 14) (.inl (zk_ar E 0, 20, .inl g)) = True := by unfold zk_wrok; rw [zk_st_ad (by decide)]; dsimp only; rw [zk_view_ad (by decide)]; simp [zk_like, zk_cell]
theorem zx_14 (g : Nat → Int32) : zk_wr E (J, N, Q, O, U) (zk_ad E 14) (.inl (zk_ar E 0, 20, .inl g)) = (J, zk_un N 14 g, Q, O, U) := by unfold zk_wr; rw [zk_st_ad (by decide)]; try (simp only [zk_ad_sub])
theorem zl_16 (F : Int32 → Prop) : zk_lenq E (zk_view E (J, N, Q, O, U) (zk_ad E 16)) F = F (Int32.ofNat 20) := by rw [zk_view_ad (by decide)]; simp [zk_lenq, zk_cell]
theorem za_16 (i : Int32) (F : Int32 → Prop) : zk_ild (zk_view E (J, N, Q, O, U) (zk_ad E 16)) (zk_ar E 0) i F = (vp_in i 20 ∧ F (N 16 i.toNatClampNeg)) := by rw [zk_view_ad (by decide)]; simp [zk_ild, zk_cell]
theorem zs_16 (i x : Int32) (F : va_E → Prop) : zk_ist (zk_view E (J, N, Q, O, U) (zk_ad E 16)) (zk_ar E 0) i x F = (vp_in i 20 ∧ F (.inl (zk_ar E 0, 20, .inl (upd (N 16) i.toNatClampNeg x)))) := by rw [zk_view_ad (by decide)]; simp [zk_ist, zk_cell]
theorem zw_16 (g : Nat → Int32) : zk_wrok E (J, N, Q, O, U) (zk_ad E 16) (.inl (zk_ar E 0, 20, .inl g)) = True := by unfold zk_wrok; rw [zk_st_ad (by decide)]; dsimp only; rw [zk_view_ad (by decide)]; simp [zk_like, zk_cell]
theorem zx_16 (g : Nat → Int32) : zk_wr E (J, N, Q, O, U) (zk_ad E 16) (.inl (zk_ar E 0, 20, .inl g)) = (J, zk_un N 16 g, Q, O, U) := by unfold zk_wr; rw [zk_st_ad (by decide)]; try (simp only [zk_ad_sub])
theorem zl_17 (F : Int32 → Prop) : zk_lenq E (zk_view E (J, N, Q, O, U) (zk_ad E 17)) F = F (Int32.ofNat 20) := by rw [zk_view_ad (by decide)]; simp [zk_lenq, zk_cell]
theorem za_17 (i : Int32) (F : Int32 → Prop) : zk_ild (zk_view E (J, N, Q, O, U) (zk_ad E 17)) (zk_ar E 0) i F = (vp_in i 20 ∧ F (N 17 i.toNatClampNeg)) := by rw [zk_view_ad (by decide)]; simp [zk_ild, zk_cell]
theorem zs_17 (i x : Int32) (F : va_E → Prop) : zk_ist (zk_view E (J, N, Q, O, U) (zk_ad E 17)) (zk_ar E 0) i x F = (vp_in i 20 ∧ F (.inl (zk_ar E 0, 20, .inl (upd (N 17) i.toNatClampNeg x)))) := by rw [zk_view_ad (by decide)]; simp [zk_ist, zk_cell]
theorem zw_17 (g : Nat → Int32) : zk_wrok E (J, N, Q, O, U) (zk_ad E 17) (.inl (zk_ar E 0, 20, .inl g)) = True := by unfold zk_wrok; rw [zk_st_ad (by decide)]; dsimp only; rw [zk_view_ad (by decide)]; simp [zk_like, zk_cell]
theorem zx_17 (g : Nat → Int32) : zk_wr E (J, N, Q, O, U) (zk_ad E 17) (.inl (zk_ar E 0, 20, .inl g)) = (J, zk_un N 17 g, Q, O, U) := by unfold zk_wr; rw [zk_st_ad (by decide)]; try (simp only [zk_ad_sub])
theorem zl_19 (F : Int32 → Prop) : zk_lenq E (zk_view E (J, N, Q, O, U) (zk_ad E 19)) F = F (Int32.ofNat 210) := by rw [zk_view_ad (by decide)]; simp [zk_lenq, zk_cell]
theorem za_19 (i : Int32) (F : Int32 → Prop) : zk_ild (zk_view E (J, N, Q, O, U) (zk_ad E 19)) (zk_ar E 0) i F = (vp_in i 210 ∧ F (N 19 i.toNatClampNeg)) := by rw [zk_view_ad (by decide)]; simp [zk_ild, zk_cell]
theorem zs_19 (i x : Int32) (F : va_E → Prop) : zk_ist (zk_view E (J, N, Q, O, U) (zk_ad E 19)) (zk_ar E 0) i x F = (vp_in i 210 ∧ F (.inl (zk_ar E 0, 210, .inl (upd (N 19) i.toNatClampNeg x)))) := by rw [zk_view_ad (by decide)]; simp [zk_ist, zk_cell]
theorem zw_19 (g : Nat → Int32) : zk_wrok E (J, N, Q, O, U) (zk_ad E 19) (.inl (zk_ar E 0, 210, .inl g)) = True := by unfold zk_wrok; rw [zk_st_ad (by decide)]; dsimp only; rw [zk_view_ad (by decide)]; simp [zk_like, zk_cell]
theorem zx_19 (g : Nat → Int32) : zk_wr E (J, N, Q, O, U) (zk_ad E 19) (.inl (zk_ar E 0, 210, .inl g)) = (J, zk_un N 19 g, Q, O, U) := by unfold zk_wr; rw [zk_st_ad (by decide)]; try (simp only [zk_ad_sub])
theorem zl_20 (F : Int32 → Prop) : zk_lenq E (zk_view E (J, N, Q, O, U) (zk_ad E 20)) F = F (Int32.ofNat 210) := by rw [zk_view_ad (by decide)]; simp [zk_lenq, zk_cell]
theorem za_20 (i : Int32) (F : Int32 → Prop) : zk_ild (zk_view E (J, N, Q, O, U) (zk_ad E 20)) (zk_ar E 0) i F = (vp_in i 210 ∧ F (N 20 i.toNatClampNeg)) := by rw [zk_view_ad (by decide)]; simp [zk_ild, zk_cell]
theorem zs_20 (i x : Int32) (F : va_E → Prop) : zk_ist (zk_view E (J, N, Q, O, U) (zk_ad E 20)) (zk_ar E 0) i x F = (vp_in i 210 ∧ F (.inl (zk_ar E 0, 210, .inl (upd (N 20) i.toNatClampNeg x)))) := by rw [zk_view_ad (by decide)]; simp [zk_ist, zk_cell]
theorem zw_20 (g : Nat → Int32) : zk_wrok E (J, N, Q, O, U) (zk_ad E 20) (.inl (zk_ar E 0, 210, .inl g)) = True := by unfold zk_wrok; rw [zk_st_ad (by decide)]; dsimp only; rw [zk_view_ad (by decide)]; simp [zk_like, zk_cell]
theorem zx_20 (g : Nat → Int32) : zk_wr E (J, N, Q, O, U) (zk_ad E 20) (.inl (zk_ar E 0, 210, .inl g)) = (J, zk_un N 20 g, Q, O, U) := by unfold zk_wr; rw [zk_st_ad (by decide)]; try (simp only [zk_ad_sub])
theorem zl_21 (F : Int32 → Prop) : zk_lenq E (zk_view E (J, N, Q, O, U) (zk_ad E 21)) F = F (Int32.ofNat 210) := by rw [zk_view_ad (by decide)]; simp [zk_lenq, zk_cell]
theorem za_21 (i : Int32) (F : Int32 → Prop) : zk_ild (zk_view E (J, N, Q, O, U) (zk_ad E 21)) (zk_ar E 0) i F = (vp_in i 210 ∧ F (N 21 i.toNatClampNeg)) := by rw [zk_view_ad (by decide)]; simp [zk_ild, zk_cell]
theorem zs_21 (i x : Int32) (F : va_E → Prop) : zk_ist (zk_view E (J, N, Q, O, U) (zk_ad E 21)) (zk_ar E 0) i x F = (vp_in i 210 ∧ F (.inl (zk_ar E 0, 210, .inl (upd (N 21) i.toNatClampNeg x)))) := by rw [zk_view_ad (by decide)]; simp [zk_ist, zk_cell]
theorem zw_21 (g : Nat → Int32) : zk_wrok E (J, N, Q, O, U) (zk_ad E 21) (.inl (zk_ar E 0, 210, .inl g)) = True := by unfold zk_wrok; rw [zk_st_ad (by decide)]; dsimp only; rw [zk_view_ad (by decide)]; simp [zk_like, zk_cell]
theorem zx_21 (g : Nat → Int32) : zk_wr E (J, N, Q, O, U) (zk_ad E 21) (.inl (zk_ar E 0, 210, .inl g)) = (J, zk_un N 21 g, Q, O, U) := by unfold zk_wr; rw [zk_st_ad (by decide)]; try (simp only [zk_ad_sub])
theorem zl_23 (F : Int32 → Prop) : zk_lenq E (zk_view E (J, N, Q, O, U) (zk_ad E 23)) F = F (Int32.ofNat 20) := by rw [zk_view_ad (by decide)]; simp [zk_lenq, zk_cell]
theorem za_23 (i : Int32) (F : Int32 → Prop) : zk_ild (zk_view E (J, N, Q, O, U) (zk_ad E 23)) (zk_ar E 0) i F = (vp_in i 20 ∧ F (N 23 i.toNatClampNeg)) := by rw [zk_view_ad (by decide)]; simp [zk_ild, zk_cell]
theorem zs_23 (i x : Int32) (F : va_E → Prop) : zk_ist (zk_view E (J, N, Q, O, U) (zk_ad E 23)) (zk_ar E 0) i x F = (vp_in i 20 ∧ F (.inl (zk_ar E 0, 20, .inl (upd (N 23) i.toNatClampNeg x)))) := by rw [zk_view_ad (by decide)]; simp [zk_ist, zk_cell]
theorem zw_23 (g : Nat → Int32) : zk_wrok E (J, N, Q, O, U) (zk_ad E 23) (.inl (zk_ar E 0, 20, .inl g)) = True := by unfold zk_wrok; rw [zk_st_ad (by decide)]; dsimp only; rw [zk_view_ad (by decide)]; simp [zk_like, zk_cell]
theorem zx_23 (g : Nat → Int32) : zk_wr E (J, N, Q, O, U) (zk_ad E 23) (.inl (zk_ar E 0, 20, .inl g)) = (J, zk_un N 23 g, Q, O, U) := by unfold zk_wr; rw [zk_st_ad (by decide)]; try (simp only [zk_ad_sub])
theorem zl_24 (F : Int32 → Prop) : zk_lenq E (zk_view E (J, N, Q, O, U) (zk_ad E 24)) F = F (Int32.ofNat 20) := by rw [zk_view_ad (by decide)]; simp [zk_lenq, zk_cell]
theorem za_24 (i : Int32) (F : Int32 → Prop) : zk_ild (zk_view E (J, N, Q, O, U) (zk_ad E 24)) (zk_ar E 0) i F = (vp_in i 20 ∧ F (N 24 i.toNatClampNeg)) := by rw [zk_view_ad (by decide)]; simp [zk_ild, zk_cell]
theorem zs_24 (i x : Int32) (F : va_E → Prop) : zk_ist (zk_view E (J, N, Q, O, U) (zk_ad E 24)) (zk_ar E 0) i x F = (vp_in i 20 ∧ F (.inl (zk_ar E 0, 20, .inl (upd (N 24) i.toNatClampNeg x)))) := by rw [zk_view_ad (by decide)]; simp [zk_ist, zk_cell]
theorem zw_24 (g : Nat → Int32) : zk_wrok E (J, N, Q, O, U) (zk_ad E 24) (.inl (zk_ar E 0, 20, .inl g)) = True := by unfold zk_wrok; rw [zk_st_ad (by decide)]; dsimp only; rw [zk_view_ad (by decide)]; simp [zk_like, zk_cell]
theorem zx_24 (g : Nat → Int32) : zk_wr E (J, N, Q, O, U) (zk_ad E 24) (.inl (zk_ar E 0, 20, .inl g)) = (J, zk_un N 24 g, Q, O, U) := by unfold zk_wr; rw [zk_st_ad (by decide)]; try (simp only [zk_ad_sub])
theorem zl_25 (F : Int32 → Prop) : zk_lenq E (zk_view E (J, N, Q, O, U) (zk_ad E 25)) F = F (Int32.ofNat 20) := by rw [zk_view_ad (by decide)]; simp [zk_lenq, zk_cell]
theorem za_25 (i : Int32) (F : Int32 → Prop) : zk_ild (zk_view E (J, N, Q, O, U) (zk_ad E 25)) (zk_ar E 0) i F = (vp_in i 20 ∧ F (N 25 i.toNatClampNeg)) := by rw [zk_view_ad (by decide)]; simp [zk_ild, zk_cell]
theorem zs_25 (i x : Int32) (F : va_E → Prop) : zk_ist (zk_view E (J, N, Q, O, U) (zk_ad E 25)) (zk_ar E 0) i x F = (vp_in i 20 ∧ F (.inl (zk_ar E 0, 20, .inl (upd (N 25) i.toNatClampNeg x)))) := by rw [zk_view_ad (by decide)]; simp [zk_ist, zk_cell]
theorem zw_25 (g : Nat → Int32) : zk_wrok E (J, N, Q, O, U) (zk_ad E 25) (.inl (zk_ar E 0, 20, .inl g)) = True := by unfold zk_wrok; rw [zk_st_ad (by decide)]; dsimp only; rw [zk_view_ad (by decide)]; simp [zk_like, zk_cell]
theorem zx_25 (g : Nat → Int32) : zk_wr E (J, N, Q, O, U) (zk_ad E 25) (.inl (zk_ar E 0, 20, .inl g)) = (J, zk_un N 25 g, Q, O, U) := by unfold zk_wr; rw [zk_st_ad (by decide)]; try (simp only [zk_ad_sub])
theorem zl_26 (F : Int32 → Prop) : zk_lenq E (zk_view E (J, N, Q, O, U) (zk_ad E 26)) F = F (Int32.ofNat 20) := by rw [zk_view_ad (by decide)]; simp [zk_lenq, zk_cell]
theorem za_26 (i : Int32) (F : Int32 → Prop) : zk_ild (zk_view E (J, N, Q, O, U) (zk_ad E 26)) (zk_ar E 0) i F = (vp_in i 20 ∧ F (N 26 i.toNatClampNeg)) := by rw [zk_view_ad (by decide)]; simp [zk_ild, zk_cell]
theorem zs_26 (i x : Int32) (F : va_E → Prop) : zk_ist (zk_view E (J, N, Q, O, U) (zk_ad E 26)) (zk_ar E 0) i x F = (vp_in i 20 ∧ F (.inl (zk_ar E 0, 20, .inl (upd (N 26) i.toNatClampNeg x)))) := by rw [zk_view_ad (by decide)]; simp [zk_ist, zk_cell]
theorem zw_26 (g : Nat → Int32) : zk_wrok E (J, N, Q, O, U) (zk_ad E 26) (.inl (zk_ar E 0, 20, .inl g)) = True := by unfold zk_wrok; rw [zk_st_ad (by decide)]; dsimp only; rw [zk_view_ad (by decide)]; simp [zk_like, zk_cell]
theorem zx_26 (g : Nat → Int32) : zk_wr E (J, N, Q, O, U) (zk_ad E 26) (.inl (zk_ar E 0, 20, .inl g)) = (J, zk_un N 26 g, Q, O, U) := by unfold zk_wr; rw [zk_st_ad (by decide)]; try (simp only [zk_ad_sub])
theorem zl_27 (F : Int32 → Prop) : zk_lenq E (zk_view E (J, N, Q, O, U) (zk_ad E 27)) F = F (Int32.ofNat 20) := by rw [zk_view_ad (by decide)]; simp [zk_lenq, zk_cell]
theorem za_27 (i : Int32) (F : Int32 → Prop) : zk_ild (zk_view E (J, N, Q, O, U) (zk_ad E 27)) (zk_ar E 0) i F = (vp_in i 20 ∧ F (N 27 i.toNatClampNeg)) := by rw [zk_view_ad (by decide)]; simp [zk_ild, zk_cell]
theorem zs_27 (i x : Int32) (F : va_E → Prop) : zk_ist (zk_view E (J, N, Q, O, U) (zk_ad E 27)) (zk_ar E 0) i x F = (vp_in i 20 ∧ F (.inl (zk_ar E 0, 20, .inl (upd (N 27) i.toNatClampNeg x)))) := by rw [zk_view_ad (by decide)]; simp [zk_ist, zk_cell]
theorem zw_27 (g : Nat → Int32) : zk_wrok E (J, N, Q, O, U) (zk_ad E 27) (.inl (zk_ar E 0, 20, .inl g)) = True := by unfold zk_wrok; rw [zk_st_ad (by decide)]; dsimp only; rw [zk_view_ad (by decide)]; simp [zk_like, zk_cell]
theorem zx_27 (g : Nat → Int32) : zk_wr E (J, N, Q, O, U) (zk_ad E 27) (.inl (zk_ar E 0, 20, .inl g)) = (J, zk_un N 27 g, Q, O, U) := by unfold zk_wr; rw [zk_st_ad (by decide)]; try (simp only [zk_ad_sub])
theorem zl_28 (F : Int32 → Prop) : zk_lenq E (zk_view E (J, N, Q, O, U) (zk_ad E 28)) F = F (Int32.ofNat 20) := by rw [zk_view_ad (by decide)]; simp [zk_lenq, zk_cell]
theorem za_28 (i : Int32) (F : Int32 → Prop) : zk_ild (zk_view E (J, N, Q, O, U) (zk_ad E 28)) (zk_ar E 0) i F = (vp_in i 20 ∧ F (N 28 i.toNatClampNeg)) := by rw [zk_view_ad (by decide)]; simp [zk_ild, zk_cell]
theorem zs_28 (i x : Int32) (F : va_E → Prop) : zk_ist (zk_view E (J, N, Q, O, U) (zk_ad E 28)) (zk_ar E 0) i x F = (vp_in i 20 ∧ F (.inl (zk_ar E 0, 20, .inl (upd (N 28) i.toNatClampNeg x)))) := by rw [zk_view_ad (by decide)]; simp [zk_ist, zk_cell]
theorem zw_28 (g : Nat → Int32) : zk_wrok E (J, N, Q, O, U) (zk_ad E 28) (.inl (zk_ar E 0, 20, .inl g)) = True := by unfold zk_wrok; rw [zk_st_ad (by decide)]; dsimp only; rw [zk_view_ad (by decide)]; simp [zk_like, zk_cell]
theorem zx_28 (g : Nat → Int32) : zk_wr E (J, N, Q, O, U) (zk_ad E 28) (.inl (zk_ar E 0, 20, .inl g)) = (J, zk_un N 28 g, Q, O, U) := by unfold zk_wr; rw [zk_st_ad (by decide)]; try (simp only [zk_ad_sub])
theorem zl_29 (F : Int32 → Prop) : zk_lenq E (zk_view E (J, N, Q, O, U) (zk_ad E 29)) F = F (Int32.ofNat 20) := by rw [zk_view_ad (by decide)]; simp [zk_lenq, zk_cell]
theorem za_29 (i : Int32) (F : Int32 → Prop) : zk_ild (zk_view E (J, N, Q, O, U) (zk_ad E 29)) (zk_ar E 0) i F = (vp_in i 20 ∧ F (N 29 i.toNatClampNeg)) := by rw [zk_view_ad (by decide)]; simp [zk_ild, zk_cell]
theorem zs_29 (i x : Int32) (F : va_E → Prop) : zk_ist (zk_view E (J, N, Q, O, U) (zk_ad E 29)) (zk_ar E 0) i x F = (vp_in i 20 ∧ F (.inl (zk_ar E 0, 20, .inl (upd (N 29) i.toNatClampNeg x)))) := by rw [zk_view_ad (by decide)]; simp [zk_ist, zk_cell]
theorem zw_29 (g : Nat → Int32) : zk_wrok E (J, N, Q, O, U) (zk_ad E 29) (.inl (zk_ar E 0, 20, .inl g)) = True := by unfold zk_wrok; rw [zk_st_ad (by decide)]; dsimp only; rw [zk_view_ad (by decide)]; simp [zk_like, zk_cell]
theorem zx_29 (g : Nat → Int32) : zk_wr E (J, N, Q, O, U) (zk_ad E 29) (.inl (zk_ar E 0, 20, .inl g)) = (J, zk_un N 29 g, Q, O, U) := by unfold zk_wr; rw [zk_st_ad (by decide)]; try (simp only [zk_ad_sub])
theorem zl_30 (F : Int32 → Prop) : zk_lenq E (zk_view E (J, N, Q, O, U) (zk_ad E 30)) F = F (Int32.ofNat 40) := by rw [zk_view_ad (by decide)]; simp [zk_lenq, zk_cell]
theorem za_30 (i : Int32) (F : Int32 → Prop) : zk_ild (zk_view E (J, N, Q, O, U) (zk_ad E 30)) (zk_ar E 0) i F = (vp_in i 40 ∧ F (N 30 i.toNatClampNeg)) := by rw [zk_view_ad (by decide)]; simp [zk_ild, zk_cell]
theorem zs_30 (i x : Int32) (F : va_E → Prop) : zk_ist (zk_view E (J, N, Q, O, U) (zk_ad E 30)) (zk_ar E 0) i x F = (vp_in i 40 ∧ F (.inl (zk_ar E 0, 40, .inl (upd (N 30) i.toNatClampNeg x)))) := by rw [zk_view_ad (by decide)]; simp [zk_ist, zk_cell]
theorem zw_30 (g : Nat → Int32) : zk_wrok E (J, N, Q, O, U) (zk_ad E 30) (.inl (zk_ar E 0, 40, .inl g)) = True := by unfold zk_wrok; rw [zk_st_ad (by decide)]; dsimp only; rw [zk_view_ad (by decide)]; simp [zk_like, zk_cell]
theorem zx_30 (g : Nat → Int32) : zk_wr E (J, N, Q, O, U) (zk_ad E 30) (.inl (zk_ar E 0, 40, .inl g)) = (J, zk_un N 30 g, Q, O, U) := by unfold zk_wr; rw [zk_st_ad (by decide)]; try (simp only [zk_ad_sub])
theorem zl_31 (F : Int32 → Prop) : zk_lenq E (zk_view E (J, N, Q, O, U) (zk_ad E 31)) F = F (Int32.ofNat 40) := by rw [zk_view_ad (by decide)]; simp [zk_lenq, zk_cell]
theorem za_31 (i : Int32) (F : Int32 → Prop) : zk_ild (zk_view E (J, N, Q, O, U) (zk_ad E 31)) (zk_ar E 0) i F = (vp_in i 40 ∧ F (N 31 i.toNatClampNeg)) := by rw [zk_view_ad (by decide)]; simp [zk_ild, zk_cell]
theorem zs_31 (i x : Int32) (F : va_E → Prop) : zk_ist (zk_view E (J, N, Q, O, U) (zk_ad E 31)) (zk_ar E 0) i x F = (vp_in i 40 ∧ F (.inl (zk_ar E 0, 40, .inl (upd (N 31) i.toNatClampNeg x)))) := by rw [zk_view_ad (by decide)]; simp [zk_ist, zk_cell]
theorem zw_31 (g : Nat → Int32) : zk_wrok E (J, N, Q, O, U) (zk_ad E 31) (.inl (zk_ar E 0, 40, .inl g)) = True := by unfold zk_wrok; rw [zk_st_ad (by decide)]; dsimp only; rw [zk_view_ad (by decide)]; simp [zk_like, zk_cell]
theorem zx_31 (g : Nat → Int32) : zk_wr E (J, N, Q, O, U) (zk_ad E 31) (.inl (zk_ar E 0, 40, .inl g)) = (J, zk_un N 31 g, Q, O, U) := by unfold zk_wr; rw [zk_st_ad (by decide)]; try (simp only [zk_ad_sub])
theorem zl_32 (F : Int32 → Prop) : zk_lenq E (zk_view E (J, N, Q, O, U) (zk_ad E 32)) F = F (Int32.ofNat 40) := by rw [zk_view_ad (by decide)]; simp [zk_lenq, zk_cell]
theorem za_32 (i : Int32) (F : Int32 → Prop) : zk_ild (zk_view E (J, N, Q, O, U) (zk_ad E 32)) (zk_ar E 0) i F = (vp_in i 40 ∧ F (N 32 i.toNatClampNeg)) := by rw [zk_view_ad (by decide)]; simp [zk_ild, zk_cell]
theorem zs_32 (i x : Int32) (F : va_E → Prop) : zk_ist (zk_view E (J, N, Q, O, U) (zk_ad E 32)) (zk_ar E 0) i x F = (vp_in i 40 ∧ F (.inl (zk_ar E 0, 40, .inl (upd (N 32) i.toNatClampNeg x)))) := by rw [zk_view_ad (by decide)]; simp [zk_ist, zk_cell]
theorem zw_32 (g : Nat → Int32) : zk_wrok E (J, N, Q, O, U) (zk_ad E 32) (.inl (zk_ar E 0, 40, .inl g)) = True := by unfold zk_wrok; rw [zk_st_ad (by decide)]; dsimp only; rw [zk_view_ad (by decide)]; simp [zk_like, zk_cell]
theorem zx_32 (g : Nat → Int32) : zk_wr E (J, N, Q, O, U) (zk_ad E 32) (.inl (zk_ar E 0, 40, .inl g)) = (J, zk_un N 32 g, Q, O, U) := by unfold zk_wr; rw [zk_st_ad (by decide)]; try (simp only [zk_ad_sub])
theorem zl_33 (F : Int32 → Prop) : zk_lenq E (zk_view E (J, N, Q, O, U) (zk_ad E 33)) F = F (Int32.ofNat 40) := by rw [zk_view_ad (by decide)]; simp [zk_lenq, zk_cell]
theorem za_33 (i : Int32) (F : Int32 → Prop) : zk_ild (zk_view E (J, N, Q, O, U) (zk_ad E 33)) (zk_ar E 0) i F = (vp_in i 40 ∧ F (N 33 i.toNatClampNeg)) := by rw [zk_view_ad (by decide)]; simp [zk_ild, zk_cell]
theorem zs_33 (i x : Int32) (F : va_E → Prop) : zk_ist (zk_view E (J, N, Q, O, U) (zk_ad E 33)) (zk_ar E 0) i x F = (vp_in i 40 ∧ F (.inl (zk_ar E 0, 40, .inl (upd (N 33) i.toNatClampNeg x)))) := by rw [zk_view_ad (by decide)]; simp [zk_ist, zk_cell]
theorem zw_33 (g : Nat → Int32) : zk_wrok E (J, N, Q, O, U) (zk_ad E 33) (.inl (zk_ar E 0, 40, .inl g)) = True := by unfold zk_wrok; rw [zk_st_ad (by decide)]; dsimp only; rw [zk_view_ad (by decide)]; simp [zk_like, zk_cell]
theorem zx_33 (g : Nat → Int32) : zk_wr E (J, N, Q, O, U) (zk_ad E 33) (.inl (zk_ar E 0, 40, .inl g)) = (J, zk_un N 33 g, Q, O, U) := by unfold zk_wr; rw [zk_st_ad (by decide)]; try (simp only [zk_ad_sub])
theorem zl_34 (F : Int32 → Prop) : zk_lenq E (zk_view E (J, N, Q, O, U) (zk_ad E 34)) F = F (Int32.ofNat 40) := by rw [zk_view_ad (by decide)]; simp [zk_lenq, zk_cell]
theorem za_34 (i : Int32) (F : Int32 → Prop) : zk_ild (zk_view E (J, N, Q, O, U) (zk_ad E 34)) (zk_ar E 0) i F = (vp_in i 40 ∧ F (N 34 i.toNatClampNeg)) := by rw [zk_view_ad (by decide)]; simp [zk_ild, zk_cell]
theorem zs_34 (i x : Int32) (F : va_E → Prop) : zk_ist (zk_view E (J, N, Q, O, U) (zk_ad E 34)) (zk_ar E 0) i x F = (vp_in i 40 ∧ F (.inl (zk_ar E 0, 40, .inl (upd (N 34) i.toNatClampNeg x)))) := by rw [zk_view_ad (by decide)]; simp [zk_ist, zk_cell]
theorem zw_34 (g : Nat → Int32) : zk_wrok E (J, N, Q, O, U) (zk_ad E 34) (.inl (zk_ar E 0, 40, .inl g)) = True := by unfold zk_wrok; rw [zk_st_ad (by decide)]; dsimp only; rw [zk_view_ad (by decide)]; simp [zk_like, zk_cell]
theorem zx_34 (g : Nat → Int32) : zk_wr E (J, N, Q, O, U) (zk_ad E 34) (.inl (zk_ar E 0, 40, .inl g)) = (J, zk_un N 34 g, Q, O, U) := by unfold zk_wr; rw [zk_st_ad (by decide)]; try (simp only [zk_ad_sub])
theorem zl_35 (F : Int32 → Prop) : zk_lenq E (zk_view E (J, N, Q, O, U) (zk_ad E 35)) F = F (Int32.ofNat 40) := by rw [zk_view_ad (by decide)]; simp [zk_lenq, zk_cell]
theorem za_35 (i : Int32) (F : Int32 → Prop) : zk_ild (zk_view E (J, N, Q, O, U) (zk_ad E 35)) (zk_ar E 1) i F = (vp_in i 40 ∧ F (N 35 i.toNatClampNeg)) := by rw [zk_view_ad (by decide)]; simp [zk_ild, zk_cell]
theorem zs_35 (i x : Int32) (F : va_E → Prop) : zk_ist (zk_view E (J, N, Q, O, U) (zk_ad E 35)) (zk_ar E 1) i x F = (vp_in i 40 ∧ F (.inl (zk_ar E 1, 40, .inl (upd (N 35) i.toNatClampNeg x)))) := by rw [zk_view_ad (by decide)]; simp [zk_ist, zk_cell]
theorem zw_35 (g : Nat → Int32) : zk_wrok E (J, N, Q, O, U) (zk_ad E 35) (.inl (zk_ar E 1, 40, .inl g)) = True := by unfold zk_wrok; rw [zk_st_ad (by decide)]; dsimp only; rw [zk_view_ad (by decide)]; simp [zk_like, zk_cell]
theorem zx_35 (g : Nat → Int32) : zk_wr E (J, N, Q, O, U) (zk_ad E 35) (.inl (zk_ar E 1, 40, .inl g)) = (J, zk_un N 35 g, Q, O, U) := by unfold zk_wr; rw [zk_st_ad (by decide)]; try (simp only [zk_ad_sub])
theorem zl_36 (F : Int32 → Prop) : zk_lenq E (zk_view E (J, N, Q, O, U) (zk_ad E 36)) F = F (Int32.ofNat 40) := by rw [zk_view_ad (by decide)]; simp [zk_lenq, zk_cell]
theorem za_36 (i : Int32) (F : Int32 → Prop) : zk_ild (zk_view E (J, N, Q, O, U) (zk_ad E 36)) (zk_ar E 1) i F = (vp_in i 40 ∧ F (N 36 i.toNatClampNeg)) := by rw [zk_view_ad (by decide)]; simp [zk_ild, zk_cell]
theorem zs_36 (i x : Int32) (F : va_E → Prop) : zk_ist (zk_view E (J, N, Q, O, U) (zk_ad E 36)) (zk_ar E 1) i x F = (vp_in i 40 ∧ F (.inl (zk_ar E 1, 40, .inl (upd (N 36) i.toNatClampNeg x)))) := by rw [zk_view_ad (by decide)]; simp [zk_ist, zk_cell]
theorem zw_36 (g : Nat → Int32) : zk_wrok E (J, N, Q, O, U) (zk_ad E 36) (.inl (zk_ar E 1, 40, .inl g)) = True := by unfold zk_wrok; rw [zk_st_ad (by decide)]; dsimp only; rw [zk_view_ad (by decide)]; simp [zk_like, zk_cell]
theorem zx_36 (g : Nat → Int32) : zk_wr E (J, N, Q, O, U) (zk_ad E 36) (.inl (zk_ar E 1, 40, .inl g)) = (J, zk_un N 36 g, Q, O, U) := by unfold zk_wr; rw [zk_st_ad (by decide)]; try (simp only [zk_ad_sub])
theorem zl_37 (F : Int32 → Prop) : zk_lenq E (zk_view E (J, N, Q, O, U) (zk_ad E 37)) F = F (Int32.ofNat 40) := by rw [zk_view_ad (by decide)]; simp [zk_lenq, zk_cell]
theorem za_37 (i : Int32) (F : Int32 → Prop) : zk_ild (zk_view E (J, N, Q, O, U) (zk_ad E 37)) (zk_ar E 0) i F = (vp_in i 40 ∧ F (N 37 i.toNatClampNeg)) := by rw [zk_view_ad (by decide)]; simp [zk_ild, zk_cell]
theorem zs_37 (i x : Int32) (F : va_E → Prop) : zk_ist (zk_view E (J, N, Q, O, U) (zk_ad E 37)) (zk_ar E 0) i x F = (vp_in i 40 ∧ F (.inl (zk_ar E 0, 40, .inl (upd (N 37) i.toNatClampNeg x)))) := by rw [zk_view_ad (by decide)]; simp [zk_ist, zk_cell]
theorem zw_37 (g : Nat → Int32) : zk_wrok E (J, N, Q, O, U) (zk_ad E 37) (.inl (zk_ar E 0, 40, .inl g)) = True := by unfold zk_wrok; rw [zk_st_ad (by decide)]; dsimp only; rw [zk_view_ad (by decide)]; simp [zk_like, zk_cell]
theorem zx_37 (g : Nat → Int32) : zk_wr E (J, N, Q, O, U) (zk_ad E 37) (.inl (zk_ar E 0, 40, .inl g)) = (J, zk_un N 37 g, Q, O, U) := by unfold zk_wr; rw [zk_st_ad (by decide)]; try (simp only [zk_ad_sub])
theorem zl_38 (F : Int32 → Prop) : zk_lenq E (zk_view E (J, N, Q, O, U) (zk_ad E 38)) F = F (Int32.ofNat 40) := by rw [zk_view_ad (by decide)]; simp [zk_lenq, zk_cell]
theorem za_38 (i : Int32) (F : Int32 → Prop) : zk_ild (zk_view E (J, N, Q, O, U) (zk_ad E 38)) (zk_ar E 0) i F = (vp_in i 40 ∧ F (N 38 i.toNatClampNeg)) := by rw [zk_view_ad (by decide)]; simp [zk_ild, zk_cell]
theorem zs_38 (i x : Int32) (F : va_E → Prop) : zk_ist (zk_view E (J, N, Q, O, U) (zk_ad E 38)) (zk_ar E 0) i x F = (vp_in i 40 ∧ F (.inl (zk_ar E 0, 40, .inl (upd (N 38) i.toNatClampNeg x)))) := by rw [zk_view_ad (by decide)]; simp [zk_ist, zk_cell]
theorem zw_38 (g : Nat → Int32) : zk_wrok E (J, N, Q, O, U) (zk_ad E 38) (.inl (zk_ar E 0, 40, .inl g)) = True := by unfold zk_wrok; rw [zk_st_ad (by decide)]; dsimp only; rw [zk_view_ad (by decide)]; simp [zk_like, zk_cell]
theorem zx_38 (g : Nat → Int32) : zk_wr E (J, N, Q, O, U) (zk_ad E 38) (.inl (zk_ar E 0, 40, .inl g)) = (J, zk_un N 38 g, Q, O, U) := by unfold zk_wr; rw [zk_st_ad (by decide)]; try (simp only [zk_ad_sub])
theorem zl_39 (F : Int32 → Prop) : zk_lenq E (zk_view E (J, N, Q, O, U) (zk_ad E 39)) F = F (Int32.ofNat 40) := by rw [zk_view_ad (by decide)]; simp [zk_lenq, zk_cell]
theorem za_39 (i : Int32) (F : Int32 → Prop) : zk_ild (zk_view E (J, N, Q, O, U) (zk_ad E 39)) (zk_ar E 0) i F = (vp_in i 40 ∧ F (N 39 i.toNatClampNeg)) := by rw [zk_view_ad (by decide)]; simp [zk_ild, zk_cell]
theorem zs_39 (i x : Int32) (F : va_E → Prop) : zk_ist (zk_view E (J, N, Q, O, U) (zk_ad E 39)) (zk_ar E 0) i x F = (vp_in i 40 ∧ F (.inl (zk_ar E 0, 40, .inl (upd (N 39) i.toNatClampNeg x)))) := by rw [zk_view_ad (by decide)]; simp [zk_ist, zk_cell]
theorem zw_39 (g : Nat → Int32) : zk_wrok E (J, N, Q, O, U) (zk_ad E 39) (.inl (zk_ar E 0, 40, .inl g)) = True := by unfold zk_wrok; rw [zk_st_ad (by decide)]; dsimp only; rw [zk_view_ad (by decide)]; simp [zk_like, zk_cell]
theorem zx_39 (g : Nat → Int32) : zk_wr E (J, N, Q, O, U) (zk_ad E 39) (.inl (zk_ar E 0, 40, .inl g)) = (J, zk_un N 39 g, Q, O, U) := by unfold zk_wr; rw [zk_st_ad (by decide)]; try (simp only [zk_ad_sub])
theorem zl_40 (F : Int32 → Prop) : zk_lenq E (zk_view E (J, N, Q, O, U) (zk_ad E 40)) F = F (Int32.ofNat 40) := by rw [zk_view_ad (by decide)]; simp [zk_lenq, zk_cell]
theorem za_40 (i : Int32) (F : Int32 → Prop) : zk_ild (zk_view E (J, N, Q, O, U) (zk_ad E 40)) (zk_ar E 0) i F = (vp_in i 40 ∧ F (N 40 i.toNatClampNeg)) := by rw [zk_view_ad (by decide)]; simp [zk_ild, zk_cell]
theorem zs_40 (i x : Int32) (F : va_E → Prop) : zk_ist (zk_view E (J, N, Q, O, U) (zk_ad E 40)) (zk_ar E 0) i x F = (vp_in i 40 ∧ F (.inl (zk_ar E 0, 40, .inl (upd (N 40) i.toNatClampNeg x)))) := by rw [zk_view_ad (by decide)]; simp [zk_ist, zk_cell]
theorem zw_40 (g : Nat → Int32) : zk_wrok E (J, N, Q, O, U) (zk_ad E 40) (.inl (zk_ar E 0, 40, .inl g)) = True := by unfold zk_wrok; rw [zk_st_ad (by decide)]; dsimp only; rw [zk_view_ad (by decide)]; simp [zk_like, zk_cell]
theorem zx_40 (g : Nat → Int32) : zk_wr E (J, N, Q, O, U) (zk_ad E 40) (.inl (zk_ar E 0, 40, .inl g)) = (J, zk_un N 40 g, Q, O, U) := by unfold zk_wr; rw [zk_st_ad (by decide)]; try (simp only [zk_ad_sub])
theorem zl_41 (F : Int32 → Prop) : zk_lenq E (zk_view E (J, N, Q, O, U) (zk_ad E 41)) F = F (Int32.ofNat 40) := by rw [zk_view_ad (by decide)]; simp [zk_lenq, zk_cell]
theorem za_41 (i : Int32) (F : Int32 → Prop) : zk_ild (zk_view E (J, N, Q, O, U) (zk_ad E 41)) (zk_ar E 1) i F = (vp_in i 40 ∧ F (N 41 i.toNatClampNeg)) := by rw [zk_view_ad (by decide)]; simp [zk_ild, zk_cell]
theorem zs_41 (i x : Int32) (F : va_E → Prop) : zk_ist (zk_view E (J, N, Q, O, U) (zk_ad E 41)) (zk_ar E 1) i x F = (vp_in i 40 ∧ F (.inl (zk_ar E 1, 40, .inl (upd (N 41) i.toNatClampNeg x)))) := by rw [zk_view_ad (by decide)]; simp [zk_ist, zk_cell]
theorem zw_41 (g : Nat → Int32) : zk_wrok E (J, N, Q, O, U) (zk_ad E 41) (.inl (zk_ar E 1, 40, .inl g)) = True := by unfold zk_wrok; rw [zk_st_ad (by decide)]; dsimp only; rw [zk_view_ad (by decide)]; simp [zk_like, zk_cell]
theorem zx_41 (g : Nat → Int32) : zk_wr E (J, N, Q, O, U) (zk_ad E 41) (.inl (zk_ar E 1, 40, .inl g)) = (J, zk_un N 41 g, Q, O, U) := by unfold zk_wr; rw [zk_st_ad (by decide)]; try (simp only [zk_ad_sub])
theorem zl_42 (F : Int32 → Prop) : zk_lenq E (zk_view E (J, N, Q, O, U) (zk_ad E 42)) F = F (Int32.ofNat 10) := by rw [zk_view_ad (by decide)]; simp [zk_lenq, zk_cell]
theorem za_42 (i : Int32) (F : Int32 → Prop) : zk_ild (zk_view E (J, N, Q, O, U) (zk_ad E 42)) (zk_ar E 0) i F = (vp_in i 10 ∧ F (N 42 i.toNatClampNeg)) := by rw [zk_view_ad (by decide)]; simp [zk_ild, zk_cell]
theorem zs_42 (i x : Int32) (F : va_E → Prop) : zk_ist (zk_view E (J, N, Q, O, U) (zk_ad E 42)) (zk_ar E 0) i x F = (vp_in i 10 ∧ F (.inl (zk_ar E 0, 10, .inl (upd (N 42) i.toNatClampNeg x)))) := by rw [zk_view_ad (by decide)]; simp [zk_ist, zk_cell]
theorem zw_42 (g : Nat → Int32) : zk_wrok E (J, N, Q, O, U) (zk_ad E 42) (.inl (zk_ar E 0, 10, .inl g)) = True := by unfold zk_wrok; rw [zk_st_ad (by decide)]; dsimp only; rw [zk_view_ad (by decide)]; simp [zk_like, zk_cell]
theorem zx_42 (g : Nat → Int32) : zk_wr E (J, N, Q, O, U) (zk_ad E 42) (.inl (zk_ar E 0, 10, .inl g)) = (J, zk_un N 42 g, Q, O, U) := by unfold zk_wr; rw [zk_st_ad (by decide)]; try (simp only [zk_ad_sub])
theorem zl_43 (F : Int32 → Prop) : zk_lenq E (zk_view E (J, N, Q, O, U) (zk_ad E 43)) F = F (Int32.ofNat 10) := by rw [zk_view_ad (by decide)]; simp [zk_lenq, zk_cell]
theorem za_43 (i : Int32) (F : Int32 → Prop) : zk_ild (zk_view E (J, N, Q, O, U) (zk_ad E 43)) (zk_ar E 0) i F = (vp_in i 10 ∧ F (N 43 i.toNatClampNeg)) := by rw [zk_view_ad (by decide)]; simp [zk_ild, zk_cell]
theorem zs_43 (i x : Int32) (F : va_E → Prop) : zk_ist (zk_view E (J, N, Q, O, U) (zk_ad E 43)) (zk_ar E 0) i x F = (vp_in i 10 ∧ F (.inl (zk_ar E 0, 10, .inl (upd (N 43) i.toNatClampNeg x)))) := by rw [zk_view_ad (by decide)]; simp [zk_ist, zk_cell]
theorem zw_43 (g : Nat → Int32) : zk_wrok E (J, N, Q, O, U) (zk_ad E 43) (.inl (zk_ar E 0, 10, .inl g)) = True := by unfold zk_wrok; rw [zk_st_ad (by decide)]; dsimp only; rw [zk_view_ad (by decide)]; simp [zk_like, zk_cell]
theorem zx_43 (g : Nat → Int32) : zk_wr E (J, N, Q, O, U) (zk_ad E 43) (.inl (zk_ar E 0, 10, .inl g)) = (J, zk_un N 43 g, Q, O, U) := by unfold zk_wr; rw [zk_st_ad (by decide)]; try (simp only [zk_ad_sub])
theorem zl_44 (F : Int32 → Prop) : zk_lenq E (zk_view E (J, N, Q, O, U) (zk_ad E 44)) F = F (Int32.ofNat 10) := by rw [zk_view_ad (by decide)]; simp [zk_lenq, zk_cell]
theorem za_44 (i : Int32) (F : Int32 → Prop) : zk_ild (zk_view E (J, N, Q, O, U) (zk_ad E 44)) (zk_ar E 0) i F = (vp_in i 10 ∧ F (N 44 i.toNatClampNeg)) := by rw [zk_view_ad (by decide)]; simp [zk_ild, zk_cell]
theorem zs_44 (i x : Int32) (F : va_E → Prop) : zk_ist (zk_view E (J, N, Q, O, U) (zk_ad E 44)) (zk_ar E 0) i x F = (vp_in i 10 ∧ F (.inl (zk_ar E 0, 10, .inl (upd (N 44) i.toNatClampNeg x)))) := by rw [zk_view_ad (by decide)]; simp [zk_ist, zk_cell]
theorem zw_44 (g : Nat → Int32) : zk_wrok E (J, N, Q, O, U) (zk_ad E 44) (.inl (zk_ar E 0, 10, .inl g)) = True := by unfold zk_wrok; rw [zk_st_ad (by decide)]; dsimp only; rw [zk_view_ad (by decide)]; simp [zk_like, zk_cell]
theorem zx_44 (g : Nat → Int32) : zk_wr E (J, N, Q, O, U) (zk_ad E 44) (.inl (zk_ar E 0, 10, .inl g)) = (J, zk_un N 44 g, Q, O, U) := by unfold zk_wr; rw [zk_st_ad (by decide)]; try (simp only [zk_ad_sub])
theorem zl_45 (F : Int32 → Prop) : zk_lenq E (zk_view E (J, N, Q, O, U) (zk_ad E 45)) F = F (Int32.ofNat 10) := by rw [zk_view_ad (by decide)]; simp [zk_lenq, zk_cell]
theorem za_45 (i : Int32) (F : Int32 → Prop) : zk_ild (zk_view E (J, N, Q, O, U) (zk_ad E 45)) (zk_ar E 0) i F = (vp_in i 10 ∧ F (N 45 i.toNatClampNeg)) := by rw [zk_view_ad (by decide)]; simp [zk_ild, zk_cell]
theorem zs_45 (i x : Int32) (F : va_E → Prop) : zk_ist (zk_view E (J, N, Q, O, U) (zk_ad E 45)) (zk_ar E 0) i x F = (vp_in i 10 ∧ F (.inl (zk_ar E 0, 10, .inl (upd (N 45) i.toNatClampNeg x)))) := by rw [zk_view_ad (by decide)]; simp [zk_ist, zk_cell]
theorem zw_45 (g : Nat → Int32) : zk_wrok E (J, N, Q, O, U) (zk_ad E 45) (.inl (zk_ar E 0, 10, .inl g)) = True := by unfold zk_wrok; rw [zk_st_ad (by decide)]; dsimp only; rw [zk_view_ad (by decide)]; simp [zk_like, zk_cell]
theorem zx_45 (g : Nat → Int32) : zk_wr E (J, N, Q, O, U) (zk_ad E 45) (.inl (zk_ar E 0, 10, .inl g)) = (J, zk_un N 45 g, Q, O, U) := by unfold zk_wr; rw [zk_st_ad (by decide)]; try (simp only [zk_ad_sub])
theorem zl_46 (F : Int32 → Prop) : zk_lenq E (zk_view E (J, N, Q, O, U) (zk_ad E 46)) F = F (Int32.ofNat 10) := by rw [zk_view_ad (by decide)]; simp [zk_lenq, zk_cell]
theorem za_46 (i : Int32) (F : Int32 → Prop) : zk_ild (zk_view E (J, N, Q, O, U) (zk_ad E 46)) (zk_ar E 0) i F = (vp_in i 10 ∧ F (N 46 i.toNatClampNeg)) := by rw [zk_view_ad (by decide)]; simp [zk_ild, zk_cell]
theorem zs_46 (i x : Int32) (F : va_E → Prop) : zk_ist (zk_view E (J, N, Q, O, U) (zk_ad E 46)) (zk_ar E 0) i x F = (vp_in i 10 ∧ F (.inl (zk_ar E 0, 10, .inl (upd (N 46) i.toNatClampNeg x)))) := by rw [zk_view_ad (by decide)]; simp [zk_ist, zk_cell]
theorem zw_46 (g : Nat → Int32) : zk_wrok E (J, N, Q, O, U) (zk_ad E 46) (.inl (zk_ar E 0, 10, .inl g)) = True := by unfold zk_wrok; rw [zk_st_ad (by decide)]; dsimp only; rw [zk_view_ad (by decide)]; simp [zk_like, zk_cell]
theorem zx_46 (g : Nat → Int32) : zk_wr E (J, N, Q, O, U) (zk_ad E 46) (.inl (zk_ar E 0, 10, .inl g)) = (J, zk_un N 46 g, Q, O, U) := by unfold zk_wr; rw [zk_st_ad (by decide)]; try (simp only [zk_ad_sub])
theorem zl_47 (F : Int32 → Prop) : zk_lenq E (zk_view E (J, N, Q, O, U) (zk_ad E 47)) F = F (Int32.ofNat 100) := by rw [zk_view_ad (by decide)]; simp [zk_lenq, zk_cell]
theorem za_47 (i : Int32) (F : Int32 → Prop) : zk_ild (zk_view E (J, N, Q, O, U) (zk_ad E 47)) (zk_ar E 0) i F = (vp_in i 100 ∧ F (N 47 i.toNatClampNeg)) := by rw [zk_view_ad (by decide)]; simp [zk_ild, zk_cell]
theorem zs_47 (i x : Int32) (F : va_E → Prop) : zk_ist (zk_view E (J, N, Q, O, U) (zk_ad E 47)) (zk_ar E 0) i x F = (vp_in i 100 ∧ F (.inl (zk_ar E 0, 100, .inl (upd (N 47) i.toNatClampNeg x)))) := by rw [zk_view_ad (by decide)]; simp [zk_ist, zk_cell]
theorem zw_47 (g : Nat → Int32) : zk_wrok E (J, N, Q, O, U) (zk_ad E 47) (.inl (zk_ar E 0, 100, .inl g)) = True := by unfold zk_wrok; rw [zk_st_ad (by decide)]; dsimp only; rw [zk_view_ad (by decide)]; simp [zk_like, zk_cell]
theorem zx_47 (g : Nat → Int32) : zk_wr E (J, N, Q, O, U) (zk_ad E 47) (.inl (zk_ar E 0, 100, .inl g)) = (J, zk_un N 47 g, Q, O, U) := by unfold zk_wr; rw [zk_st_ad (by decide)]; try (simp only [zk_ad_sub])
theorem zl_48 (F : Int32 → Prop) : zk_lenq E (zk_view E (J, N, Q, O, U) (zk_ad E 48)) F = F (Int32.ofNat 20) := by rw [zk_view_ad (by decide)]; simp [zk_lenq, zk_cell]
theorem za_48 (i : Int32) (F : Int32 → Prop) : zk_ild (zk_view E (J, N, Q, O, U) (zk_ad E 48)) (zk_ar E 0) i F = (vp_in i 20 ∧ F (N 48 i.toNatClampNeg)) := by rw [zk_view_ad (by decide)]; simp [zk_ild, zk_cell]
theorem zs_48 (i x : Int32) (F : va_E → Prop) : zk_ist (zk_view E (J, N, Q, O, U) (zk_ad E 48)) (zk_ar E 0) i x F = (vp_in i 20 ∧ F (.inl (zk_ar E 0, 20, .inl (upd (N 48) i.toNatClampNeg x)))) := by rw [zk_view_ad (by decide)]; simp [zk_ist, zk_cell]
theorem zw_48 (g : Nat → Int32) : zk_wrok E (J, N, Q, O, U) (zk_ad E 48) (.inl (zk_ar E 0, 20, .inl g)) = True := by unfold zk_wrok; rw [zk_st_ad (by decide)]; dsimp only; rw [zk_view_ad (by decide)]; simp [zk_like, zk_cell]
theorem zx_48 (g : Nat → Int32) : zk_wr E (J, N, Q, O, U) (zk_ad E 48) (.inl (zk_ar E 0, 20, .inl g)) = (J, zk_un N 48 g, Q, O, U) := by unfold zk_wr; rw [zk_st_ad (by decide)]; try (simp only [zk_ad_sub])
theorem zl_49 (F : Int32 → Prop) : zk_lenq E (zk_view E (J, N, Q, O, U) (zk_ad E 49)) F = F (Int32.ofNat 20) := by rw [zk_view_ad (by decide)]; simp [zk_lenq, zk_cell]
theorem za_49 (i : Int32) (F : Int32 → Prop) : zk_ild (zk_view E (J, N, Q, O, U) (zk_ad E 49)) (zk_ar E 0) i F = (vp_in i 20 ∧ F (N 49 i.toNatClampNeg)) := by rw [zk_view_ad (by decide)]; simp [zk_ild, zk_cell]
theorem zs_49 (i x : Int32) (F : va_E → Prop) : zk_ist (zk_view E (J, N, Q, O, U) (zk_ad E 49)) (zk_ar E 0) i x F = (vp_in i 20 ∧ F (.inl (zk_ar E 0, 20, .inl (upd (N 49) i.toNatClampNeg x)))) := by rw [zk_view_ad (by decide)]; simp [zk_ist, zk_cell]
theorem zw_49 (g : Nat → Int32) : zk_wrok E (J, N, Q, O, U) (zk_ad E 49) (.inl (zk_ar E 0, 20, .inl g)) = True := by unfold zk_wrok; rw [zk_st_ad (by decide)]; dsimp only; rw [zk_view_ad (by decide)]; simp [zk_like, zk_cell]
theorem zx_49 (g : Nat → Int32) : zk_wr E (J, N, Q, O, U) (zk_ad E 49) (.inl (zk_ar E 0, 20, .inl g)) = (J, zk_un N 49 g, Q, O, U) := by unfold zk_wr; rw [zk_st_ad (by decide)]; try (simp only [zk_ad_sub])
theorem zl_50 (F : Int32 → Prop) : zk_lenq E (zk_view E (J, N, Q, O, U) (zk_ad E 50)) F = F (Int32.ofNat 20) := by rw [zk_view_ad (by decide)]; simp [zk_lenq, zk_cell]
theorem za_50 (i : Int32) (F : Int32 → Prop) : zk_ild (zk_view E (J, N, Q, O, U) (zk_ad E 50)) (zk_ar E 0) i F = (vp_in i 20 ∧ F (N 50 i.toNatClampNeg)) := by rw [zk_view_ad (by decide)]; simp [zk_ild, zk_cell]
theorem zs_50 (i x : Int32) (F : va_E → Prop) : zk_ist (zk_view E (J, N, Q, O, U) (zk_ad E 50)) (zk_ar E 0) i x F = (vp_in i 20 ∧ F (.inl (zk_ar E 0, 20, .inl (upd (N 50) i.toNatClampNeg x)))) := by rw [zk_view_ad (by decide)]; simp [zk_ist, zk_cell]
theorem zw_50 (g : Nat → Int32) : zk_wrok E (J, N, Q, O, U) (zk_ad E 50) (.inl (zk_ar E 0, 20, .inl g)) = True := by unfold zk_wrok; rw [zk_st_ad (by decide)]; dsimp only; rw [zk_view_ad (by decide)]; simp [zk_like, zk_cell]
theorem zx_50 (g : Nat → Int32) : zk_wr E (J, N, Q, O, U) (zk_ad E 50) (.inl (zk_ar E 0, 20, .inl g)) = (J, zk_un N 50 g, Q, O, U) := by unfold zk_wr; rw [zk_st_ad (by decide)]; try (simp only [zk_ad_sub])
theorem zl_51 (F : Int32 → Prop) : zk_lenq E (zk_view E (J, N, Q, O, U) (zk_ad E 51)) F = F (Int32.ofNat 1200) := by rw [zk_view_ad (by decide)]; simp [zk_lenq, zk_cell]
theorem za_51 (i : Int32) (F : Int32 → Prop) : zk_ild (zk_view E (J, N, Q, O, U) (zk_ad E 51)) (zk_ar E 0) i F = (vp_in i 1200 ∧ F (N 51 i.toNatClampNeg)) := by rw [zk_view_ad (by decide)]; simp [zk_ild, zk_cell]
theorem zs_51 (i x : Int32) (F : va_E → Prop) : zk_ist (zk_view E (J, N, Q, O, U) (zk_ad E 51)) (zk_ar E 0) i x F = (vp_in i 1200 ∧ F (.inl (zk_ar E 0, 1200, .inl (upd (N 51) i.toNatClampNeg x)))) := by rw [zk_view_ad (by decide)]; simp [zk_ist, zk_cell]
theorem zw_51 (g : Nat → Int32) : zk_wrok E (J, N, Q, O, U) (zk_ad E 51) (.inl (zk_ar E 0, 1200, .inl g)) = True := by unfold zk_wrok; rw [zk_st_ad (by decide)]; dsimp only; rw [zk_view_ad (by decide)]; simp [zk_like, zk_cell]
theorem zx_51 (g : Nat → Int32) : zk_wr E (J, N, Q, O, U) (zk_ad E 51) (.inl (zk_ar E 0, 1200, .inl g)) = (J, zk_un N 51 g, Q, O, U) := by unfold zk_wr; rw [zk_st_ad (by decide)]; try (simp only [zk_ad_sub])
theorem zl_52 (F : Int32 → Prop) : zk_lenq E (zk_view E (J, N, Q, O, U) (zk_ad E 52)) F = F (Int32.ofNat 100) := by rw [zk_view_ad (by decide)]; simp [zk_lenq, zk_cell]
theorem za_52 (i : Int32) (F : Int32 → Prop) : zk_ild (zk_view E (J, N, Q, O, U) (zk_ad E 52)) (zk_ar E 0) i F = (vp_in i 100 ∧ F (N 52 i.toNatClampNeg)) := by rw [zk_view_ad (by decide)]; simp [zk_ild, zk_cell]
theorem zs_52 (i x : Int32) (F : va_E → Prop) : zk_ist (zk_view E (J, N, Q, O, U) (zk_ad E 52)) (zk_ar E 0) i x F = (vp_in i 100 ∧ F (.inl (zk_ar E 0, 100, .inl (upd (N 52) i.toNatClampNeg x)))) := by rw [zk_view_ad (by decide)]; simp [zk_ist, zk_cell]
theorem zw_52 (g : Nat → Int32) : zk_wrok E (J, N, Q, O, U) (zk_ad E 52) (.inl (zk_ar E 0, 100, .inl g)) = True := by unfold zk_wrok; rw [zk_st_ad (by decide)]; dsimp only; rw [zk_view_ad (by decide)]; simp [zk_like, zk_cell]
theorem zx_52 (g : Nat → Int32) : zk_wr E (J, N, Q, O, U) (zk_ad E 52) (.inl (zk_ar E 0, 100, .inl g)) = (J, zk_un N 52 g, Q, O, U) := by unfold zk_wr; rw [zk_st_ad (by decide)]; try (simp only [zk_ad_sub])
theorem zl_53 (F : Int32 → Prop) : zk_lenq E (zk_view E (J, N, Q, O, U) (zk_ad E 53)) F = F (Int32.ofNat 20) := by rw [zk_view_ad (by decide)]; simp [zk_lenq, zk_cell]
theorem za_53 (i : Int32) (F : Int32 → Prop) : zk_ild (zk_view E (J, N, Q, O, U) (zk_ad E 53)) (zk_ar E 0) i F = (vp_in i 20 ∧ F (N 53 i.toNatClampNeg)) := by rw [zk_view_ad (by decide)]; simp [zk_ild, zk_cell]
theorem zs_53 (i x : Int32) (F : va_E → Prop) : zk_ist (zk_view E (J, N, Q, O, U) (zk_ad E 53)) (zk_ar E 0) i x F = (vp_in i 20 ∧ F (.inl (zk_ar E 0, 20, .inl (upd (N 53) i.toNatClampNeg x)))) := by rw [zk_view_ad (by decide)]; simp [zk_ist, zk_cell]
theorem zw_53 (g : Nat → Int32) : zk_wrok E (J, N, Q, O, U) (zk_ad E 53) (.inl (zk_ar E 0, 20, .inl g)) = True := by unfold zk_wrok; rw [zk_st_ad (by decide)]; dsimp only; rw [zk_view_ad (by decide)]; simp [zk_like, zk_cell]
theorem zx_53 (g : Nat → Int32) : zk_wr E (J, N, Q, O, U) (zk_ad E 53) (.inl (zk_ar E 0, 20, .inl g)) = (J, zk_un N 53 g, Q, O, U) := by unfold zk_wr; rw [zk_st_ad (by decide)]; try (simp only [zk_ad_sub])
theorem zl_54 (F : Int32 → Prop) : zk_lenq E (zk_view E (J, N, Q, O, U) (zk_ad E 54)) F = F (Int32.ofNat 1) := by rw [zk_view_ad (by decide)]; simp [zk_lenq, zk_cell]
theorem za_54 (i : Int32) (F : Int64 → Prop) : zk_lld (zk_view E (J, N, Q, O, U) (zk_ad E 54)) (zk_ar E 2) i F = (vp_in i 1 ∧ F (U i.toNatClampNeg)) := by rw [zk_view_ad (by decide)]; simp [zk_lld, zk_cell]
theorem zs_54 (i : Int32) (x : Int64) (F : va_E → Prop) : zk_lst (zk_view E (J, N, Q, O, U) (zk_ad E 54)) (zk_ar E 2) i x F = (vp_in i 1 ∧ F (.inl (zk_ar E 2, 1, .inr (.inl (vp_updL U i.toNatClampNeg x))))) := by rw [zk_view_ad (by decide)]; simp [zk_lst, zk_cell]
theorem zw_54 (g : Nat → Int64) : zk_wrok E (J, N, Q, O, U) (zk_ad E 54) (.inl (zk_ar E 2, 1, .inr (.inl g))) = True := by unfold zk_wrok; rw [zk_st_ad (by decide)]; dsimp only; rw [zk_view_ad (by decide)]; simp [zk_like, zk_cell]
theorem zx_54 (g : Nat → Int64) : zk_wr E (J, N, Q, O, U) (zk_ad E 54) (.inl (zk_ar E 2, 1, .inr (.inl g))) = (J, N, Q, O, g) := by unfold zk_wr; rw [zk_st_ad (by decide)]; try (simp only [zk_ad_sub])
end ZV
