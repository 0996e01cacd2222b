/-! the state of the main phase: ints by object and field, arrays by their place, the other cells -/
/-- the script: where it lies, its length, what it holds -/
abbrev zk_U : Type := Nat × Nat × (Nat → Int32)
abbrev zk_S : Type := (Nat → Nat → Int32) × (Nat → Nat → Int32) × (Nat → Nat → Option Nat) × zk_Hp × zk_U
def zk_pos (k : Nat) : Nat := if k < 22 then k + 1 else if k = 22 then 0 else k
def zk_inv (j : Nat) : Nat := if j = 0 then 22 else if j < 23 then j - 1 else j
def zk_ad (E : zk_E) (k : Nat) : Nat := E.1 + zk_pos k
def zk_ix (E : zk_E) (a : Nat) : Nat := zk_inv (a - E.1)
def zk_un {α : Type} (f : Nat → α) (k : Nat) (g : α) : Nat → α := fun o => if o = k then g else f o
def zk_uj (J : Nat → Nat → Int32) (o k : Nat) (x : Int32) : Nat → Nat → Int32 := fun a b => if a = o ∧ b = k then x else J a b
def zk_cell (E : zk_E) (J : Nat → Nat → Int32) (N : Nat → Nat → Int32) (Q : Nat → Nat → Option Nat) (U : zk_U) (k : Nat) : Option va_E := match k with
  | 0 => some (.inr (9, [.ref (zk_ad E 1), .ref (zk_ad E 7), .ref (zk_ad E 15), .ref (zk_ad E 18), .int (J 0 4)]))
  | 1 => some (.inr (4, [.ref (zk_ad E 2), .ref (zk_ad E 3), .ref (zk_ad E 4), .ref (zk_ad E 5), .ref (zk_ad E 6), .int (J 1 5), .int (J 1 6), .int (J 1 7), .int (J 1 8)]))
  | 2 => some (.inl (zk_ar E 3, 20, .inr (.inr (.inr (.inr (Q 2))))))
  | 3 => some (.inl (zk_ar E 4, 40, .inr (.inr (.inr (.inr (Q 3))))))
  | 4 => some (.inl (zk_ar E 5, 40, .inr (.inr (.inr (.inr (Q 4))))))
  | 5 => some (.inl (zk_ar E 6, 10, .inr (.inr (.inr (.inr (Q 5))))))
  | 6 => some (.inl (zk_ar E 0, 10, .inl (N 6)))
  | 7 => some (.inr (7, [.ref (zk_ad E 8), .ref (zk_ad E 9), .ref (zk_ad E 10), .ref (zk_ad E 11), .ref (zk_ad E 12), .ref (zk_ad E 13), .ref (zk_ad E 14)]))
  | 8 => some (.inl (zk_ar E 0, 50, .inl (N 8)))
  | 9 => some (.inl (zk_ar E 0, 50, .inl (N 9)))
  | 10 => some (.inl (zk_ar E 0, 50, .inl (N 10)))
  | 11 => some (.inl (zk_ar E 0, 20, .inl (N 11)))
  | 12 => some (.inl (zk_ar E 0, 20, .inl (N 12)))
  | 13 => some (.inl (zk_ar E 0, 20, .inl (N 13)))
  | 14 => some (.inl (zk_ar E 0, 20, .inl (N 14)))
  | 15 => some (.inr (0, [.ref (zk_ad E 16), .ref (zk_ad E 17)]))
  | 16 => some (.inl (zk_ar E 0, 20, .inl (N 16)))
  | 17 => some (.inl (zk_ar E 0, 20, .inl (N 17)))
  | 18 => some (.inr (2, [.ref (zk_ad E 19), .ref (zk_ad E 20), .ref (zk_ad E 21), .int (J 18 3)]))
  | 19 => some (.inl (zk_ar E 0, 210, .inl (N 19)))
  | 20 => some (.inl (zk_ar E 0, 210, .inl (N 20)))
  | 21 => some (.inl (zk_ar E 0, 210, .inl (N 21)))
  | 22 => some (.inr (10, [.ref (zk_ad E 0), .ref U.1, .int (J 22 2), .int (J 22 3), .ref (zk_ad E 23), .int (J 22 5), .ref (zk_ad E 24), .int (J 22 7), .ref (zk_ad E 25), .int (J 22 9), .ref (zk_ad E 26), .ref (zk_ad E 27)]))
  | 23 => some (.inl (zk_ar E 7, 20, .inr (.inr (.inr (.inr (Q 23))))))
  | 24 => some (.inl (zk_ar E 7, 40, .inr (.inr (.inr (.inr (Q 24))))))
  | 25 => some (.inl (zk_ar E 7, 40, .inr (.inr (.inr (.inr (Q 25))))))
  | 26 => some (.inl (zk_ar E 7, 10, .inr (.inr (.inr (.inr (Q 26))))))
  | 27 => some (.inl (zk_ar E 0, 10, .inl (N 27)))
  | _ => none
def zk_scr (E : zk_E) (U : zk_U) (q : Nat) : Option va_E := if q = U.1 then some (.inl (zk_ar E 0, U.2.1, .inl U.2.2)) else none
def zk_view (E : zk_E) (σ : zk_S) (q : Nat) : Option va_E := match decide (q < E.1), decide (q < E.1 + 28) with
  | true, _ => zk_scr E σ.2.2.2.2 q
  | false, true => zk_cell E σ.1 σ.2.1 σ.2.2.1 σ.2.2.2.2 (zk_ix E q)
  | false, false => σ.2.2.2.1 q
def zk_po (O : zk_Hp) (a k : Nat) (v : Value) : zk_Hp := fun q => if q = a then (match O a with
  | some (.inr (ci, fs)) => some (.inr (ci, fs.set k v))
  | o => o) else O q
def zk_st (E : zk_E) (a : Nat) : Bool := decide (E.1 ≤ a) && decide (a < E.1 + 28)
def zk_wr (E : zk_E) (σ : zk_S) (a : Nat) (e : va_E) : zk_S := match zk_st E a with
  | true => (match e with
    | .inl (_, _, .inl g) => (σ.1, zk_un σ.2.1 (zk_ix E a) g, σ.2.2.1, σ.2.2.2.1, σ.2.2.2.2)
    | .inl (_, _, .inr (.inr (.inr (.inr g)))) => (σ.1, σ.2.1, zk_un σ.2.2.1 (zk_ix E a) g, σ.2.2.2.1, σ.2.2.2.2)
    | _ => σ)
  | false => (σ.1, σ.2.1, σ.2.2.1, zk_up σ.2.2.2.1 a e, σ.2.2.2.2)
def zk_like (e : va_E) (o : Option va_E) : Prop := match e, o with
  | .inl (c, n, .inl _), some (.inl (c2, n2, .inl _)) => c = c2 ∧ n = n2
  | .inl (c, n, .inr (.inr (.inr (.inr _)))), some (.inl (c2, n2, .inr (.inr (.inr (.inr _))))) => c = c2 ∧ n = n2
  | _, _ => False
def zk_wrok (E : zk_E) (σ : zk_S) (a : Nat) (e : va_E) : Prop := match zk_st E a with
  | true => zk_like e (zk_view E σ a)
  | false => E.1 + 28 ≤ a
def zk_pf (E : zk_E) (σ : zk_S) (a k : Nat) (v : Value) : zk_S := match zk_st E a with
  | true => (match v with
    | .int x => (zk_uj σ.1 (zk_ix E a) k x, σ.2.1, σ.2.2.1, σ.2.2.2.1, σ.2.2.2.2)
    | _ => σ)
  | false => (σ.1, σ.2.1, σ.2.2.1, zk_po σ.2.2.2.1 a k v, σ.2.2.2.2)
def zk_jf : List (Nat × Nat) := [(0, 4), (1, 5), (1, 6), (1, 7), (1, 8), (18, 3), (22, 2), (22, 3), (22, 5), (22, 7), (22, 9)]
def zk_pfok (E : zk_E) (_ : zk_S) (a k : Nat) (v : Value) : Prop := match zk_st E a with
  | true => (match v with
    | .int _ => (zk_ix E a, k) ∈ zk_jf
    | _ => False)
  | false => E.1 + 28 ≤ a
def zk_VT (E : zk_E) : zk_V zk_S := (zk_view E, zk_wr E, zk_wrok E, zk_pf E, zk_pfok E)
theorem zk_view_st {E : zk_E} {σ : zk_S} {a : Nat} (h : zk_st E a = true) : zk_view E σ a = zk_cell E σ.1 σ.2.1 σ.2.2.1 σ.2.2.2.2 (zk_ix E a) := by
  simp only [zk_st, Bool.and_eq_true, decide_eq_true_eq] at h
  unfold zk_view
  rw [decide_eq_false (by omega), decide_eq_true h.2]
theorem zk_view_dy {E : zk_E} {σ : zk_S} {a : Nat} (h : zk_st E a = false) : zk_view E σ a = if a < E.1 then zk_scr E σ.2.2.2.2 a else σ.2.2.2.1 a := by
  simp only [zk_st, Bool.and_eq_false_iff, decide_eq_false_iff_not] at h
  unfold zk_view
  by_cases h1 : a < E.1
  · rw [decide_eq_true h1, if_pos h1]
  · rw [decide_eq_false h1, if_neg h1, decide_eq_false (by omega)]
theorem zk_off_ne {E : zk_E} {a b : Nat} (ha : zk_st E a = true) (hb : zk_st E b = true) (h : b ≠ a) : zk_ix E b ≠ zk_ix E a := by
  simp only [zk_st, Bool.and_eq_true, decide_eq_true_eq] at ha hb
  unfold zk_ix zk_inv
  repeat' split
  all_goals omega
theorem zk_st_le {E : zk_E} {a : Nat} (h : zk_st E a = true) : E.1 ≤ a := by
  simp only [zk_st, Bool.and_eq_true, decide_eq_true_eq] at h
  exact h.1
set_option maxHeartbeats 4000000 in
theorem zk_cell_N {E : zk_E} {J N : Nat → Nat → Int32} {Q : Nat → Nat → Option Nat} {U : zk_U} {k o : Nat} {g : Nat → Int32} (h : o ≠ k) : zk_cell E J (zk_un N k g) Q U o = zk_cell E J N Q U o := by
  unfold zk_cell
  split <;> first | rfl | simp only [zk_un, if_neg h]
set_option maxHeartbeats 4000000 in
theorem zk_cell_Q {E : zk_E} {J N : Nat → Nat → Int32} {Q : Nat → Nat → Option Nat} {U : zk_U} {k o : Nat} {g : Nat → Option Nat} (h : o ≠ k) : zk_cell E J N (zk_un Q k g) U o = zk_cell E J N Q U o := by
  unfold zk_cell
  split <;> first | rfl | simp only [zk_un, if_neg h]
set_option maxHeartbeats 4000000 in
theorem zk_cell_J {E : zk_E} {J N : Nat → Nat → Int32} {Q : Nat → Nat → Option Nat} {U : zk_U} {k o j : Nat} {x : Int32} (h : o ≠ k) : zk_cell E (zk_uj J k j x) N Q U o = zk_cell E J N Q U o := by
  have e : ∀ i, zk_uj J k j x o i = J o i := fun i => by unfold zk_uj; rw [if_neg (fun q => h q.1)]
  unfold zk_cell
  split <;> first | rfl | simp only [e]
set_option maxHeartbeats 4000000 in
theorem zk_cell_like {E : zk_E} {J N : Nat → Nat → Int32} {Q : Nat → Nat → Option Nat} {U : zk_U} {o : Nat} {c : ClassId} {n : Nat} {g : Nat → Int32} (h : zk_like (.inl (c, n, .inl g)) (zk_cell E J N Q U o)) : zk_cell E J (zk_un N o g) Q U o = some (.inl (c, n, .inl g)) := by
  unfold zk_cell at h ⊢
  split at h <;> first | exact h.elim | (obtain ⟨rfl, rfl⟩ := h; simp only [zk_un, if_pos])
set_option maxHeartbeats 4000000 in
theorem zk_cell_likeQ {E : zk_E} {J N : Nat → Nat → Int32} {Q : Nat → Nat → Option Nat} {U : zk_U} {o : Nat} {c : ClassId} {n : Nat} {g : Nat → Option Nat} (h : zk_like (.inl (c, n, .inr (.inr (.inr (.inr g))))) (zk_cell E J N Q U o)) : zk_cell E J N (zk_un Q o g) U o = some (.inl (c, n, .inr (.inr (.inr (.inr g))))) := by
  unfold zk_cell at h ⊢
  split at h <;> first | exact h.elim | (obtain ⟨rfl, rfl⟩ := h; simp only [zk_un, if_pos])
set_option maxHeartbeats 4000000 in
theorem zk_cell_pf {E : zk_E} {J N : Nat → Nat → Int32} {Q : Nat → Nat → Option Nat} {U : zk_U} {o k ci : Nat} {x : Int32} {fs : List Value} (h : (o, k) ∈ zk_jf) (hc : zk_cell E J N Q U o = some (.inr (ci, fs))) : zk_cell E (zk_uj J o k x) N Q U o = some (.inr (ci, fs.set k (.int x))) := by
  simp only [zk_jf, List.mem_cons, List.not_mem_nil, or_false, Prod.mk.injEq] at h
  rcases h with ⟨rfl, rfl⟩ | ⟨rfl, rfl⟩ | ⟨rfl, rfl⟩ | ⟨rfl, rfl⟩ | ⟨rfl, rfl⟩ | ⟨rfl, rfl⟩ | ⟨rfl, rfl⟩ | ⟨rfl, rfl⟩ | ⟨rfl, rfl⟩ | ⟨rfl, rfl⟩ | ⟨rfl, rfl⟩ <;> (cases hc; simp [zk_cell, zk_uj])
theorem zk_VT_ok (E : zk_E) : zk_VK E (zk_VT E) := by
  refine ⟨fun σ a e h => ?_, fun σ a k v ci fs h0 h => ?_⟩
  · change zk_wrok E σ a e at h
    refine ⟨?_, fun b e2 hb => ?_⟩
    · unfold zk_wrok at h
      split at h
      · rename_i hs
        exact zk_st_le hs
      · omega
    change zk_view E (zk_wr E σ a e) b = some e2 at hb
    change zk_up (zk_view E σ) a e b = some e2
    unfold zk_wrok at h
    unfold zk_wr at hb
    unfold zk_up
    split at h
    · rename_i hs
      rw [zk_view_st hs] at h
      rw [hs] at hb
      dsimp only at hb
      obtain ⟨J, N, Q, O, U⟩ := σ
      dsimp only at h hb
      have other : ∀ {σ2 : zk_S}, σ2.2.2.2 = (O, U) → (∀ o, o ≠ zk_ix E a → zk_cell E σ2.1 σ2.2.1 σ2.2.2.1 σ2.2.2.2.2 o = zk_cell E J N Q U o) → zk_cell E σ2.1 σ2.2.1 σ2.2.2.1 σ2.2.2.2.2 (zk_ix E a) = some e → zk_view E σ2 b = some e2 → (if b = a then some e else zk_view E (J, N, Q, O, U) b) = some e2 := by
        intro σ2 h1 h2 h3 h4
        by_cases q : b = a
        · subst q
          rw [if_pos rfl]
          rw [zk_view_st hs, h3] at h4
          exact h4
        · rw [if_neg q]
          cases hsb : zk_st E b with
          | true =>
            rw [zk_view_st hsb] at h4 ⊢
            rw [h2 _ (zk_off_ne hs hsb q)] at h4
            exact h4
          | false =>
            rw [zk_view_dy hsb] at h4 ⊢
            rw [h1] at h4
            exact h4
      match e, h, hb with
      | .inl (c, n, .inl g), h, hb => exact other rfl (fun o q => zk_cell_N q) (zk_cell_like h) hb
      | .inl (c, n, .inr (.inr (.inr (.inr g)))), h, hb => exact other rfl (fun o q => zk_cell_Q q) (zk_cell_likeQ h) hb
    · rename_i hs
      rw [hs] at hb
      dsimp only at hb
      by_cases q : b = a
      · subst q
        rw [if_pos rfl]
        rw [zk_view_dy hs, if_neg (by omega)] at hb
        simpa [zk_up] using hb
      · rw [if_neg q]
        cases hsb : zk_st E b with
        | true =>
          rw [zk_view_st hsb] at hb ⊢
          exact hb
        | false =>
          rw [zk_view_dy hsb] at hb ⊢
          simpa [zk_up, q] using hb
  · change zk_pfok E σ a k v at h
    change zk_view E σ a = _ at h0
    refine ⟨?_, fun b e2 hb => ?_⟩
    · unfold zk_pfok at h
      split at h
      · rename_i hs
        exact zk_st_le hs
      · omega
    change zk_view E (zk_pf E σ a k v) b = some e2 at hb
    change zk_up (zk_view E σ) a _ b = some e2
    unfold zk_pfok at h
    unfold zk_pf at hb
    unfold zk_up
    split at h
    · rename_i hs
      split at h
      · rename_i x
        rw [hs] at hb
        dsimp only at hb
        rw [zk_view_st hs] at h0
        by_cases q : b = a
        · subst q
          rw [if_pos rfl]
          rw [zk_view_st hs] at hb
          dsimp only at hb
          rw [zk_cell_pf h h0] at hb
          exact hb
        · rw [if_neg q]
          cases hsb : zk_st E b with
          | true =>
            rw [zk_view_st hsb] at hb ⊢
            dsimp only at hb
            rw [zk_cell_J (zk_off_ne hs hsb q)] at hb
            exact hb
          | false =>
            rw [zk_view_dy hsb] at hb ⊢
            exact hb
      · exact h.elim
    · rename_i hs
      rw [hs] at hb
      dsimp only at hb
      rw [zk_view_dy hs, if_neg (by omega)] at h0
      by_cases q : b = a
      · subst q
        rw [if_pos rfl]
        rw [zk_view_dy hs, if_neg (by omega)] at hb
        simp only [zk_po, if_pos, h0] at hb
        exact hb
      · rw [if_neg q]
        cases hsb : zk_st E b with
        | true =>
          rw [zk_view_st hsb] at hb ⊢
          exact hb
        | false =>
          rw [zk_view_dy hsb] at hb ⊢
          simpa [zk_po, q] using hb
theorem zk_pos_lt {k : Nat} (h : k < 28) : zk_pos k < 28 := by
  unfold zk_pos
  repeat' split
  all_goals omega
theorem zk_inv_pos {k : Nat} (h : k < 28) : zk_inv (zk_pos k) = k := by
  unfold zk_pos zk_inv
  repeat' split
  all_goals omega
theorem zk_st_ad {E : zk_E} {k : Nat} (h : k < 28) : zk_st E (zk_ad E k) = true := by
  have h1 : E.1 ≤ zk_ad E k := Nat.le_add_right _ _
  have h2 : zk_ad E k < E.1 + 28 := Nat.add_lt_add_left (zk_pos_lt h) _
  unfold zk_st
  rw [decide_eq_true h1, decide_eq_true h2]
  rfl
theorem zk_ix_ad {E : zk_E} {k : Nat} (h : k < 28) : zk_ix E (zk_ad E k) = k := by
  unfold zk_ix zk_ad
  rw [Nat.add_sub_cancel_left, zk_inv_pos h]
theorem zk_view_ad {E : zk_E} {σ : zk_S} {k : Nat} (h : k < 28) : zk_view E σ (zk_ad E k) = zk_cell E σ.1 σ.2.1 σ.2.2.1 σ.2.2.2.2 k := by
  rw [zk_view_st (zk_st_ad h), zk_ix_ad h]
theorem zk_view_scr {E : zk_E} {σ : zk_S} (h : σ.2.2.2.2.1 < E.1) : zk_view E σ σ.2.2.2.2.1 = some (.inl (zk_ar E 0, σ.2.2.2.2.2.1, .inl σ.2.2.2.2.2.2)) := by
  unfold zk_view
  rw [decide_eq_true h]
  unfold zk_scr
  rw [if_pos rfl]
section ZV
variable (E : zk_E) (J N : Nat → Nat → Int32) (Q : Nat → Nat → Option Nat) (O : zk_Hp) (U : zk_U)
theorem zf_0_0 (cs : List Nat) (F : Value → Prop) : zk_fld (zk_view E (J, N, Q, O, U) (zk_ad E 0)) cs 0 F = (9 ∈ cs ∧ F (.ref (zk_ad E 1))) := by rw [zk_view_ad (by decide)]; rfl
theorem zf_0_1 (cs : List Nat) (F : Value → Prop) : zk_fld (zk_view E (J, N, Q, O, U) (zk_ad E 0)) cs 1 F = (9 ∈ cs ∧ F (.ref (zk_ad E 7))) := by rw [zk_view_ad (by decide)]; rfl
theorem zf_0_2 (cs : List Nat) (F : Value → Prop) : zk_fld (zk_view E (J, N, Q, O, U) (zk_ad E 0)) cs 2 F = (9 ∈ cs ∧ F (.ref (zk_ad E 15))) := by rw [zk_view_ad (by decide)]; rfl
theorem zf_0_3 (cs : List Nat) (F : Value → Prop) : zk_fld (zk_view E (J, N, Q, O, U) (zk_ad E 0)) cs 3 F = (9 ∈ cs ∧ F (.ref (zk_ad E 18))) := by rw [zk_view_ad (by decide)]; rfl
theorem zf_0_4 (cs : List Nat) (F : Value → Prop) : zk_fld (zk_view E (J, N, Q, O, U) (zk_ad E 0)) cs 4 F = (9 ∈ cs ∧ F (.int (J 0 4))) := by rw [zk_view_ad (by decide)]; rfl
theorem zp_0_4 (cs : List Nat) (tag : Nat) (v : Value) (F : Prop) : zk_put (zk_view E (J, N, Q, O, U) (zk_ad E 0)) cs 4 tag v F = (9 ∈ cs ∧ zk_fok tag v ∧ F) := by rw [zk_view_ad (by decide)]; simp [zk_put, zk_cell]
theorem zo_0_4 (x : Int32) : zk_pfok E (J, N, Q, O, U) (zk_ad E 0) 4 (.int x) = True := by unfold zk_pfok; rw [zk_st_ad (by decide)]; dsimp only; rw [zk_ix_ad (by decide)]; simp [zk_jf]
theorem zq_0_4 (x : Int32) : zk_pf E (J, N, Q, O, U) (zk_ad E 0) 4 (.int x) = (zk_uj J 0 4 x, N, Q, O, U) := by unfold zk_pf; rw [zk_st_ad (by decide)]; dsimp only; rw [zk_ix_ad (by decide)]
theorem zi_0 (k : Nat → Bool) : zk_is (zk_view E (J, N, Q, O, U) (zk_ad E 0)) k = (k 9 = true) := by rw [zk_view_ad (by decide)]; rfl
theorem zf_1_0 (cs : List Nat) (F : Value → Prop) : zk_fld (zk_view E (J, N, Q, O, U) (zk_ad E 1)) cs 0 F = (4 ∈ cs ∧ F (.ref (zk_ad E 2))) := by rw [zk_view_ad (by decide)]; rfl
theorem zf_1_1 (cs : List Nat) (F : Value → Prop) : zk_fld (zk_view E (J, N, Q, O, U) (zk_ad E 1)) cs 1 F = (4 ∈ cs ∧ F (.ref (zk_ad E 3))) := by rw [zk_view_ad (by decide)]; rfl
theorem zf_1_2 (cs : List Nat) (F : Value → Prop) : zk_fld (zk_view E (J, N, Q, O, U) (zk_ad E 1)) cs 2 F = (4 ∈ cs ∧ F (.ref (zk_ad E 4))) := by rw [zk_view_ad (by decide)]; rfl
theorem zf_1_3 (cs : List Nat) (F : Value → Prop) : zk_fld (zk_view E (J, N, Q, O, U) (zk_ad E 1)) cs 3 F = (4 ∈ cs ∧ F (.ref (zk_ad E 5))) := by rw [zk_view_ad (by decide)]; rfl
theorem zf_1_4 (cs : List Nat) (F : Value → Prop) : zk_fld (zk_view E (J, N, Q, O, U) (zk_ad E 1)) cs 4 F = (4 ∈ cs ∧ F (.ref (zk_ad E 6))) := by rw [zk_view_ad (by decide)]; rfl
theorem zf_1_5 (cs : List Nat) (F : Value → Prop) : zk_fld (zk_view E (J, N, Q, O, U) (zk_ad E 1)) cs 5 F = (4 ∈ cs ∧ F (.int (J 1 5))) := by rw [zk_view_ad (by decide)]; rfl
theorem zp_1_5 (cs : List Nat) (tag : Nat) (v : Value) (F : Prop) : zk_put (zk_view E (J, N, Q, O, U) (zk_ad E 1)) cs 5 tag v F = (4 ∈ cs ∧ zk_fok tag v ∧ F) := by rw [zk_view_ad (by decide)]; simp [zk_put, zk_cell]
theorem zo_1_5 (x : Int32) : zk_pfok E (J, N, Q, O, U) (zk_ad E 1) 5 (.int x) = True := by unfold zk_pfok; rw [zk_st_ad (by decide)]; dsimp only; rw [zk_ix_ad (by decide)]; simp [zk_jf]
theorem zq_1_5 (x : Int32) : zk_pf E (J, N, Q, O, U) (zk_ad E 1) 5 (.int x) = (zk_uj J 1 5 x, N, Q, O, U) := by unfold zk_pf; rw [zk_st_ad (by decide)]; dsimp only; rw [zk_ix_ad (by decide)]
theorem zf_1_6 (cs : List Nat) (F : Value → Prop) : zk_fld (zk_view E (J, N, Q, O, U) (zk_ad E 1)) cs 6 F = (4 ∈ cs ∧ F (.int (J 1 6))) := by rw [zk_view_ad (by decide)]; rfl
theorem zp_1_6 (cs : List Nat) (tag : Nat) (v : Value) (F : Prop) : zk_put (zk_view E (J, N, Q, O, U) (zk_ad E 1)) cs 6 tag v F = (4 ∈ cs ∧ zk_fok tag v ∧ F) := by rw [zk_view_ad (by decide)]; simp [zk_put, zk_cell]
theorem zo_1_6 (x : Int32) : zk_pfok E (J, N, Q, O, U) (zk_ad E 1) 6 (.int x) = True := by unfold zk_pfok; rw [zk_st_ad (by decide)]; dsimp only; rw [zk_ix_ad (by decide)]; simp [zk_jf]
theorem zq_1_6 (x : Int32) : zk_pf E (J, N, Q, O, U) (zk_ad E 1) 6 (.int x) = (zk_uj J 1 6 x, N, Q, O, U) := by unfold zk_pf; rw [zk_st_ad (by decide)]; dsimp only; rw [zk_ix_ad (by decide)]
theorem zf_1_7 (cs : List Nat) (F : Value → Prop) : zk_fld (zk_view E (J, N, Q, O, U) (zk_ad E 1)) cs 7 F = (4 ∈ cs ∧ F (.int (J 1 7))) := by rw [zk_view_ad (by decide)]; rfl
theorem zp_1_7 (cs : List Nat) (tag : Nat) (v : Value) (F : Prop) : zk_put (zk_view E (J, N, Q, O, U) (zk_ad E 1)) cs 7 tag v F = (4 ∈ cs ∧ zk_fok tag v ∧ F) := by rw [zk_view_ad (by decide)]; simp [zk_put, zk_cell]
theorem zo_1_7 (x : Int32) : zk_pfok E (J, N, Q, O, U) (zk_ad E 1) 7 (.int x) = True := by unfold zk_pfok; rw [zk_st_ad (by decide)]; dsimp only; rw [zk_ix_ad (by decide)]; simp [zk_jf]
theorem zq_1_7 (x : Int32) : zk_pf E (J, N, Q, O, U) (zk_ad E 1) 7 (.int x) = (zk_uj J 1 7 x, N, Q, O, U) := by unfold zk_pf; rw [zk_st_ad (by decide)]; dsimp only; rw [zk_ix_ad (by decide)]
theorem zf_1_8 (cs : List Nat) (F : Value → Prop) : zk_fld (zk_view E (J, N, Q, O, U) (zk_ad E 1)) cs 8 F = (4 ∈ cs ∧ F (.int (J 1 8))) := by rw [zk_view_ad (by decide)]; rfl
theorem zp_1_8 (cs : List Nat) (tag : Nat) (v : Value) (F : Prop) : zk_put (zk_view E (J, N, Q, O, U) (zk_ad E 1)) cs 8 tag v F = (4 ∈ cs ∧ zk_fok tag v ∧ F) := by rw [zk_view_ad (by decide)]; simp [zk_put, zk_cell]
theorem zo_1_8 (x : Int32) : zk_pfok E (J, N, Q, O, U) (zk_ad E 1) 8 (.int x) = True := by unfold zk_pfok; rw [zk_st_ad (by decide)]; dsimp only; rw [zk_ix_ad (by decide)]; simp [zk_jf]
theorem zq_1_8 (x : Int32) : zk_pf E (J, N, Q, O, U) (zk_ad E 1) 8 (.int x) = (zk_uj J 1 8 x, N, Q, O, U) := by unfold zk_pf; rw [zk_st_ad (by decide)]; dsimp only; rw [zk_ix_ad (by decide)]
theorem zi_1 (k : Nat → Bool) : zk_is (zk_view E (J, N, Q, O, U) (zk_ad E 1)) k = (k 4 = true) := by rw [zk_view_ad (by decide)]; rfl
theorem zf_7_0 (cs : List Nat) (F : Value → Prop) : zk_fld (zk_view E (J, N, Q, O, U) (zk_ad E 7)) cs 0 F = (7 ∈ cs ∧ F (.ref (zk_ad E 8))) := by rw [zk_view_ad (by decide)]; rfl
theorem zf_7_1 (cs : List Nat) (F : Value → Prop) : zk_fld (zk_view E (J, N, Q, O, U) (zk_ad E 7)) cs 1 F = (7 ∈ cs ∧ F (.ref (zk_ad E 9))) := by rw [zk_view_ad (by decide)]; rfl
theorem zf_7_2 (cs : List Nat) (F : Value → Prop) : zk_fld (zk_view E (J, N, Q, O, U) (zk_ad E 7)) cs 2 F = (7 ∈ cs ∧ F (.ref (zk_ad E 10))) := by rw [zk_view_ad (by decide)]; rfl
theorem zf_7_3 (cs : List Nat) (F : Value → Prop) : zk_fld (zk_view E (J, N, Q, O, U) (zk_ad E 7)) cs 3 F = (7 ∈ cs ∧ F (.ref (zk_ad E 11))) := by rw [zk_view_ad (by decide)]; rfl
theorem zf_7_4 (cs : List Nat) (F : Value → Prop) : zk_fld (zk_view E (J, N, Q, O, U) (zk_ad E 7)) cs 4 F = (7 ∈ cs ∧ F (.ref (zk_ad E 12))) := by rw [zk_view_ad (by decide)]; rfl
theorem zf_7_5 (cs : List Nat) (F : Value → Prop) : zk_fld (zk_view E (J, N, Q, O, U) (zk_ad E 7)) cs 5 F = (7 ∈ cs ∧ F (.ref (zk_ad E 13))) := by rw [zk_view_ad (by decide)]; rfl
theorem zf_7_6 (cs : List Nat) (F : Value → Prop) : zk_fld (zk_view E (J, N, Q, O, U) (zk_ad E 7)) cs 6 F = (7 ∈ cs ∧ F (.ref (zk_ad E 14))) := by rw [zk_view_ad (by decide)]; rfl
theorem zi_7 (k : Nat → Bool) : zk_is (zk_view E (J, N, Q, O, U) (zk_ad E 7)) k = (k 7 = true) := by rw [zk_view_ad (by decide)]; rfl
theorem zf_15_0 (cs : List Nat) (F : Value → Prop) : zk_fld (zk_view E (J, N, Q, O, U) (zk_ad E 15)) cs 0 F = (0 ∈ cs ∧ F (.ref (zk_ad E 16))) := by rw [zk_view_ad (by decide)]; rfl
theorem zf_15_1 (cs : List Nat) (F : Value → Prop) : zk_fld (zk_view E (J, N, Q, O, U) (zk_ad E 15)) cs 1 F = (0 ∈ cs ∧ F (.ref (zk_ad E 17))) := by rw [zk_view_ad (by decide)]; rfl
theorem zi_15 (k : Nat → Bool) : zk_is (zk_view E (J, N, Q, O, U) (zk_ad E 15)) k = (k 0 = true) := by rw [zk_view_ad (by decide)]; rfl
theorem zf_18_0 (cs : List Nat) (F : Value → Prop) : zk_fld (zk_view E (J, N, Q, O, U) (zk_ad E 18)) cs 0 F = (2 ∈ cs ∧ F (.ref (zk_ad E 19))) := by rw [zk_view_ad (by decide)]; rfl
theorem zf_18_1 (cs : List Nat) (F : Value → Prop) : zk_fld (zk_view E (J, N, Q, O, U) (zk_ad E 18)) cs 1 F = (2 ∈ cs ∧ F (.ref (zk_ad E 20))) := by rw [zk_view_ad (by decide)]; rfl
theorem zf_18_2 (cs : List Nat) (F : Value → Prop) : zk_fld (zk_view E (J, N, Q, O, U) (zk_ad E 18)) cs 2 F = (2 ∈ cs ∧ F (.ref (zk_ad E 21))) := by rw [zk_view_ad (by decide)]; rfl
theorem zf_18_3 (cs : List Nat) (F : Value → Prop) : zk_fld (zk_view E (J, N, Q, O, U) (zk_ad E 18)) cs 3 F = (2 ∈ cs ∧ F (.int (J 18 3))) := by rw [zk_view_ad (by decide)]; rfl
theorem zp_18_3 (cs : List Nat) (tag : Nat) (v : Value) (F : Prop) : zk_put (zk_view E (J, N, Q, O, U) (zk_ad E 18)) cs 3 tag v F = (2 ∈ cs ∧ zk_fok tag v ∧ F) := by rw [zk_view_ad (by decide)]; simp [zk_put, zk_cell]
theorem zo_18_3 (x : Int32) : zk_pfok E (J, N, Q, O, U) (zk_ad E 18) 3 (.int x) = True := by unfold zk_pfok; rw [zk_st_ad (by decide)]; dsimp only; rw [zk_ix_ad (by decide)]; simp [zk_jf]
theorem zq_18_3 (x : Int32) : zk_pf E (J, N, Q, O, U) (zk_ad E 18) 3 (.int x) = (zk_uj J 18 3 x, N, Q, O, U) := by unfold zk_pf; rw [zk_st_ad (by decide)]; dsimp only; rw [zk_ix_ad (by decide)]
theorem zi_18 (k : Nat → Bool) : zk_is (zk_view E (J, N, Q, O, U) (zk_ad E 18)) k = (k 2 = true) := by rw [zk_view_ad (by decide)]; rfl
theorem zf_22_0 (cs : List Nat) (F : Value → Prop) : zk_fld (zk_view E (J, N, Q, O, U) (zk_ad E 22)) cs 0 F = (10 ∈ cs ∧ F (.ref (zk_ad E 0))) := by rw [zk_view_ad (by decide)]; rfl
theorem zf_22_1 (cs : List Nat) (F : Value → Prop) : zk_fld (zk_view E (J, N, Q, O, U) (zk_ad E 22)) cs 1 F = (10 ∈ cs ∧ F (.ref U.1)) := by rw [zk_view_ad (by decide)]; rfl
theorem zf_22_2 (cs : List Nat) (F : Value → Prop) : zk_fld (zk_view E (J, N, Q, O, U) (zk_ad E 22)) cs 2 F = (10 ∈ cs ∧ F (.int (J 22 2))) := by rw [zk_view_ad (by decide)]; rfl
theorem zp_22_2 (cs : List Nat) (tag : Nat) (v : Value) (F : Prop) : zk_put (zk_view E (J, N, Q, O, U) (zk_ad E 22)) cs 2 tag v F = (10 ∈ cs ∧ zk_fok tag v ∧ F) := by rw [zk_view_ad (by decide)]; simp [zk_put, zk_cell]
theorem zo_22_2 (x : Int32) : zk_pfok E (J, N, Q, O, U) (zk_ad E 22) 2 (.int x) = True := by unfold zk_pfok; rw [zk_st_ad (by decide)]; dsimp only; rw [zk_ix_ad (by decide)]; simp [zk_jf]
theorem zq_22_2 (x : Int32) : zk_pf E (J, N, Q, O, U) (zk_ad E 22) 2 (.int x) = (zk_uj J 22 2 x, N, Q, O, U) := by unfold zk_pf; rw [zk_st_ad (by decide)]; dsimp only; rw [zk_ix_ad (by decide)]
theorem zf_22_3 (cs : List Nat) (F : Value → Prop) : zk_fld (zk_view E (J, N, Q, O, U) (zk_ad E 22)) cs 3 F = (10 ∈ cs ∧ F (.int (J 22 3))) := by rw [zk_view_ad (by decide)]; rfl
theorem zp_22_3 (cs : List Nat) (tag : Nat) (v : Value) (F : Prop) : zk_put (zk_view E (J, N, Q, O, U) (zk_ad E 22)) cs 3 tag v F = (10 ∈ cs ∧ zk_fok tag v ∧ F) := by rw [zk_view_ad (by decide)]; simp [zk_put, zk_cell]
theorem zo_22_3 (x : Int32) : zk_pfok E (J, N, Q, O, U) (zk_ad E 22) 3 (.int x) = True := by unfold zk_pfok; rw [zk_st_ad (by decide)]; dsimp only; rw [zk_ix_ad (by decide)]; simp [zk_jf]
theorem zq_22_3 (x : Int32) : zk_pf E (J, N, Q, O, U) (zk_ad E 22) 3 (.int x) = (zk_uj J 22 3 x, N, Q, O, U) := by unfold zk_pf; rw [zk_st_ad (by decide)]; dsimp only; rw [zk_ix_ad (by decide)]
theorem zf_22_4 (cs : List Nat) (F : Value → Prop) : zk_fld (zk_view E (J, N, Q, O, U) (zk_ad E 22)) cs 4 F = (10 ∈ cs ∧ F (.ref (zk_ad E 23))) := by rw [zk_view_ad (by decide)]; rfl
theorem zf_22_5 (cs : List Nat) (F : Value → Prop) : zk_fld (zk_view E (J, N, Q, O, U) (zk_ad E 22)) cs 5 F = (10 ∈ cs ∧ F (.int (J 22 5))) := by rw [zk_view_ad (by decide)]; rfl
theorem zp_22_5 (cs : List Nat) (tag : Nat) (v : Value) (F : Prop) : zk_put (zk_view E (J, N, Q, O, U) (zk_ad E 22)) cs 5 tag v F = (10 ∈ cs ∧ zk_fok tag v ∧ F) := by rw [zk_view_ad (by decide)]; simp [zk_put, zk_cell]
theorem zo_22_5 (x : Int32) : zk_pfok E (J, N, Q, O, U) (zk_ad E 22) 5 (.int x) = True := by unfold zk_pfok; rw [zk_st_ad (by decide)]; dsimp only; rw [zk_ix_ad (by decide)]; simp [zk_jf]
theorem zq_22_5 (x : Int32) : zk_pf E (J, N, Q, O, U) (zk_ad E 22) 5 (.int x) = (zk_uj J 22 5 x, N, Q, O, U) := by unfold zk_pf; rw [zk_st_ad (by decide)]; dsimp only; rw [zk_ix_ad (by decide)]
theorem zf_22_6 (cs : List Nat) (F : Value → Prop) : zk_fld (zk_view E (J, N, Q, O, U) (zk_ad E 22)) cs 6 F = (10 ∈ cs ∧ F (.ref (zk_ad E 24))) := by rw [zk_view_ad (by decide)]; rfl
theorem zf_22_7 (cs : List Nat) (F : Value → Prop) : zk_fld (zk_view E (J, N, Q, O, U) (zk_ad E 22)) cs 7 F = (10 ∈ cs ∧ F (.int (J 22 7))) := by rw [zk_view_ad (by decide)]; rfl
theorem zp_22_7 (cs : List Nat) (tag : Nat) (v : Value) (F : Prop) : zk_put (zk_view E (J, N, Q, O, U) (zk_ad E 22)) cs 7 tag v F = (10 ∈ cs ∧ zk_fok tag v ∧ F) := by rw [zk_view_ad (by decide)]; simp [zk_put, zk_cell]
theorem zo_22_7 (x : Int32) : zk_pfok E (J, N, Q, O, U) (zk_ad E 22) 7 (.int x) = True := by unfold zk_pfok; rw [zk_st_ad (by decide)]; dsimp only; rw [zk_ix_ad (by decide)]; simp [zk_jf]
theorem zq_22_7 (x : Int32) : zk_pf E (J, N, Q, O, U) (zk_ad E 22) 7 (.int x) = (zk_uj J 22 7 x, N, Q, O, U) := by unfold zk_pf; rw [zk_st_ad (by decide)]; dsimp only; rw [zk_ix_ad (by decide)]
theorem zf_22_8 (cs : List Nat) (F : Value → Prop) : zk_fld (zk_view E (J, N, Q, O, U) (zk_ad E 22)) cs 8 F = (10 ∈ cs ∧ F (.ref (zk_ad E 25))) := by rw [zk_view_ad (by decide)]; rfl
theorem zf_22_9 (cs : List Nat) (F : Value → Prop) : zk_fld (zk_view E (J, N, Q, O, U) (zk_ad E 22)) cs 9 F = (10 ∈ cs ∧ F (.int (J 22 9))) := by rw [zk_view_ad (by decide)]; rfl
theorem zp_22_9 (cs : List Nat) (tag : Nat) (v : Value) (F : Prop) : zk_put (zk_view E (J, N, Q, O, U) (zk_ad E 22)) cs 9 tag v F = (10 ∈ cs ∧ zk_fok tag v ∧ F) := by rw [zk_view_ad (by decide)]; simp [zk_put, zk_cell]
theorem zo_22_9 (x : Int32) : zk_pfok E (J, N, Q, O, U) (zk_ad E 22) 9 (.int x) = True := by unfold zk_pfok; rw [zk_st_ad (by decide)]; dsimp only; rw [zk_ix_ad (by decide)]; simp [zk_jf]
theorem zq_22_9 (x : Int32) : zk_pf E (J, N, Q, O, U) (zk_ad E 22) 9 (.int x) = (zk_uj J 22 9 x, N, Q, O, U) := by unfold zk_pf; rw [zk_st_ad (by decide)]; dsimp only; rw [zk_ix_ad (by decide)]
theorem zf_22_10 (cs : List Nat) (F : Value → Prop) : zk_fld (zk_view E (J, N, Q, O, U) (zk_ad E 22)) cs 10 F = (10 ∈ cs ∧ F (.ref (zk_ad E 26))) := by rw [zk_view_ad (by decide)]; rfl
theorem zf_22_11 (cs : List Nat) (F : Value → Prop) : zk_fld (zk_view E (J, N, Q, O, U) (zk_ad E 22)) cs 11 F = (10 ∈ cs ∧ F (.ref (zk_ad E 27))) := by rw [zk_view_ad (by decide)]; rfl
theorem zi_22 (k : Nat → Bool) : zk_is (zk_view E (J, N, Q, O, U) (zk_ad E 22)) k = (k 10 = true) := by rw [zk_view_ad (by decide)]; rfl
theorem zl_2 (F : Int32 → Prop) : zk_lenq E (zk_view E (J, N, Q, O, U) (zk_ad E 2)) F = F (Int32.ofNat 20) := by rw [zk_view_ad (by decide)]; simp [zk_lenq, zk_cell]
theorem za_2 (i : Int32) (F : Option Nat → Prop) : zk_qld (zk_view E (J, N, Q, O, U) (zk_ad E 2)) i [zk_ar E 3, zk_ar E 4, zk_ar E 5, zk_ar E 6, zk_ar E 7] F = (vp_in i 20 ∧ F (Q 2 i.toNatClampNeg)) := by rw [zk_view_ad (by decide)]; simp [zk_qld, zk_cell]
theorem zs_2 (i : Int32) (v : Nat) (fs : List Value) (F : va_E → Prop) : zk_qst E (zk_view E (J, N, Q, O, U) (zk_ad E 2)) (some (.inr (5, fs))) i v F = (vp_in i 20 ∧ F (.inl (zk_ar E 3, 20, .inr (.inr (.inr (.inr (va_up (Q 2) i.toNatClampNeg (some v)))))))) := by rw [zk_view_ad (by decide)]; simp [zk_qst, zk_cell, zk_qc, zk_ar]
theorem zn_2 (i : Int32) (F : va_E → Prop) : zk_qsn (zk_view E (J, N, Q, O, U) (zk_ad E 2)) i [zk_ar E 3, zk_ar E 4, zk_ar E 5, zk_ar E 6] F = (vp_in i 20 ∧ F (.inl (zk_ar E 3, 20, .inr (.inr (.inr (.inr (va_up (Q 2) i.toNatClampNeg none))))))) := by rw [zk_view_ad (by decide)]; simp [zk_qsn, zk_cell]
theorem zw_2 (g : Nat → Option Nat) : zk_wrok E (J, N, Q, O, U) (zk_ad E 2) (.inl (zk_ar E 3, 20, .inr (.inr (.inr (.inr g))))) = True := by unfold zk_wrok; rw [zk_st_ad (by decide)]; dsimp only; rw [zk_view_ad (by decide)]; simp [zk_like, zk_cell]
theorem zx_2 (g : Nat → Option Nat) : zk_wr E (J, N, Q, O, U) (zk_ad E 2) (.inl (zk_ar E 3, 20, .inr (.inr (.inr (.inr g))))) = (J, N, zk_un Q 2 g, O, U) := by unfold zk_wr; rw [zk_st_ad (by decide)]; dsimp only; try (rw [zk_ix_ad (by decide)])
theorem zl_3 (F : Int32 → Prop) : zk_lenq E (zk_view E (J, N, Q, O, U) (zk_ad E 3)) F = F (Int32.ofNat 40) := by rw [zk_view_ad (by decide)]; simp [zk_lenq, zk_cell]
theorem za_3 (i : Int32) (F : Option Nat → Prop) : zk_qld (zk_view E (J, N, Q, O, U) (zk_ad E 3)) i [zk_ar E 3, zk_ar E 4, zk_ar E 5, zk_ar E 6, zk_ar E 7] F = (vp_in i 40 ∧ F (Q 3 i.toNatClampNeg)) := by rw [zk_view_ad (by decide)]; simp [zk_qld, zk_cell]
theorem zs_3 (i : Int32) (v : Nat) (fs : List Value) (F : va_E → Prop) : zk_qst E (zk_view E (J, N, Q, O, U) (zk_ad E 3)) (some (.inr (1, fs))) i v F = (vp_in i 40 ∧ F (.inl (zk_ar E 4, 40, .inr (.inr (.inr (.inr (va_up (Q 3) i.toNatClampNeg (some v)))))))) := by rw [zk_view_ad (by decide)]; simp [zk_qst, zk_cell, zk_qc, zk_ar]
theorem zn_3 (i : Int32) (F : va_E → Prop) : zk_qsn (zk_view E (J, N, Q, O, U) (zk_ad E 3)) i [zk_ar E 3, zk_ar E 4, zk_ar E 5, zk_ar E 6] F = (vp_in i 40 ∧ F (.inl (zk_ar E 4, 40, .inr (.inr (.inr (.inr (va_up (Q 3) i.toNatClampNeg none))))))) := by rw [zk_view_ad (by decide)]; simp [zk_qsn, zk_cell]
theorem zw_3 (g : Nat → Option Nat) : zk_wrok E (J, N, Q, O, U) (zk_ad E 3) (.inl (zk_ar E 4, 40, .inr (.inr (.inr (.inr g))))) = True := by unfold zk_wrok; rw [zk_st_ad (by decide)]; dsimp only; rw [zk_view_ad (by decide)]; simp [zk_like, zk_cell]
theorem zx_3 (g : Nat → Option Nat) : zk_wr E (J, N, Q, O, U) (zk_ad E 3) (.inl (zk_ar E 4, 40, .inr (.inr (.inr (.inr g))))) = (J, N, zk_un Q 3 g, O, U) := by unfold zk_wr; rw [zk_st_ad (by decide)]; dsimp only; try (rw [zk_ix_ad (by decide)])
theorem zl_4 (F : Int32 → Prop) : zk_lenq E (zk_view E (J, N, Q, O, U) (zk_ad E 4)) F = F (Int32.ofNat 40) := by rw [zk_view_ad (by decide)]; simp [zk_lenq, zk_cell]
theorem za_4 (i : Int32) (F : Option Nat → Prop) : zk_qld (zk_view E (J, N, Q, O, U) (zk_ad E 4)) i [zk_ar E 3, zk_ar E 4, zk_ar E 5, zk_ar E 6, zk_ar E 7] F = (vp_in i 40 ∧ F (Q 4 i.toNatClampNeg)) := by rw [zk_view_ad (by decide)]; simp [zk_qld, zk_cell]
theorem zn_4 (i : Int32) (F : va_E → Prop) : zk_qsn (zk_view E (J, N, Q, O, U) (zk_ad E 4)) i [zk_ar E 3, zk_ar E 4, zk_ar E 5, zk_ar E 6] F = (vp_in i 40 ∧ F (.inl (zk_ar E 5, 40, .inr (.inr (.inr (.inr (va_up (Q 4) i.toNatClampNeg none))))))) := by rw [zk_view_ad (by decide)]; simp [zk_qsn, zk_cell]
theorem zw_4 (g : Nat → Option Nat) : zk_wrok E (J, N, Q, O, U) (zk_ad E 4) (.inl (zk_ar E 5, 40, .inr (.inr (.inr (.inr g))))) = True := by unfold zk_wrok; rw [zk_st_ad (by decide)]; dsimp only; rw [zk_view_ad (by decide)]; simp [zk_like, zk_cell]
theorem zx_4 (g : Nat → Option Nat) : zk_wr E (J, N, Q, O, U) (zk_ad E 4) (.inl (zk_ar E 5, 40, .inr (.inr (.inr (.inr g))))) = (J, N, zk_un Q 4 g, O, U) := by unfold zk_wr; rw [zk_st_ad (by decide)]; dsimp only; try (rw [zk_ix_ad (by decide)])
theorem zl_5 (F : Int32 → Prop) : zk_lenq E (zk_view E (J, N, Q, O, U) (zk_ad E 5)) F = F (Int32.ofNat 10) := by rw [zk_view_ad (by decide)]; simp [zk_lenq, zk_cell]
theorem za_5 (i : Int32) (F : Option Nat → Prop) : zk_qld (zk_view E (J, N, Q, O, U) (zk_ad E 5)) i [zk_ar E 3, zk_ar E 4, zk_ar E 5, zk_ar E 6, zk_ar E 7] F = (vp_in i 10 ∧ F (Q 5 i.toNatClampNeg)) := by rw [zk_view_ad (by decide)]; simp [zk_qld, zk_cell]
theorem zs_5 (i : Int32) (v : Nat) (fs : List Value) (F : va_E → Prop) : zk_qst E (zk_view E (J, N, Q, O, U) (zk_ad E 5)) (some (.inr (6, fs))) i v F = (vp_in i 10 ∧ F (.inl (zk_ar E 6, 10, .inr (.inr (.inr (.inr (va_up (Q 5) i.toNatClampNeg (some v)))))))) := by rw [zk_view_ad (by decide)]; simp [zk_qst, zk_cell, zk_qc, zk_ar]
theorem zn_5 (i : Int32) (F : va_E → Prop) : zk_qsn (zk_view E (J, N, Q, O, U) (zk_ad E 5)) i [zk_ar E 3, zk_ar E 4, zk_ar E 5, zk_ar E 6] F = (vp_in i 10 ∧ F (.inl (zk_ar E 6, 10, .inr (.inr (.inr (.inr (va_up (Q 5) i.toNatClampNeg none))))))) := by rw [zk_view_ad (by decide)]; simp [zk_qsn, zk_cell]
theorem zw_5 (g : Nat → Option Nat) : zk_wrok E (J, N, Q, O, U) (zk_ad E 5) (.inl (zk_ar E 6, 10, .inr (.inr (.inr (.inr g))))) = True := by unfold zk_wrok; rw [zk_st_ad (by decide)]; dsimp only; rw [zk_view_ad (by decide)]; simp [zk_like, zk_cell]
theorem zx_5 (g : Nat → Option Nat) : zk_wr E (J, N, Q, O, U) (zk_ad E 5) (.inl (zk_ar E 6, 10, .inr (.inr (.inr (.inr g))))) = (J, N, zk_un Q 5 g, O, U) := by unfold zk_wr; rw [zk_st_ad (by decide)]; dsimp only; try (rw [zk_ix_ad (by decide)])
theorem zl_6 (F : Int32 → Prop) : zk_lenq E (zk_view E (J, N, Q, O, U) (zk_ad E 6)) F = F (Int32.ofNat 10) := by rw [zk_view_ad (by decide)]; simp [zk_lenq, zk_cell]
theorem za_6 (i : Int32) (F : Int32 → Prop) : zk_ild (zk_view E (J, N, Q, O, U) (zk_ad E 6)) (zk_ar E 0) i F = (vp_in i 10 ∧ F (N 6 i.toNatClampNeg)) := by rw [zk_view_ad (by decide)]; simp [zk_ild, zk_cell]
theorem zs_6 (i x : Int32) (F : va_E → Prop) : zk_ist (zk_view E (J, N, Q, O, U) (zk_ad E 6)) (zk_ar E 0) i x F = (vp_in i 10 ∧ F (.inl (zk_ar E 0, 10, .inl (upd (N 6) i.toNatClampNeg x)))) := by rw [zk_view_ad (by decide)]; simp [zk_ist, zk_cell]
theorem zw_6 (g : Nat → Int32) : zk_wrok E (J, N, Q, O, U) (zk_ad E 6) (.inl (zk_ar E 0, 10, .inl g)) = True := by unfold zk_wrok; rw [zk_st_ad (by decide)]; dsimp only; rw [zk_view_ad (by decide)]; simp [zk_like, zk_cell]
theorem zx_6 (g : Nat → Int32) : zk_wr E (J, N, Q, O, U) (zk_ad E 6) (.inl (zk_ar E 0, 10, .inl g)) = (J, zk_un N 6 g, Q, O, U) := by unfold zk_wr; rw [zk_st_ad (by decide)]; dsimp only; try (rw [zk_ix_ad (by decide)])
theorem zl_8 (F : Int32 → Prop) : zk_lenq E (zk_view E (J, N, Q, O, U) (zk_ad E 8)) F = F (Int32.ofNat 50) := by rw [zk_view_ad (by decide)]; simp [zk_lenq, zk_cell]
theorem za_8 (i : Int32) (F : Int32 → Prop) : zk_ild (zk_view E (J, N, Q, O, U) (zk_ad E 8)) (zk_ar E 0) i F = (vp_in i 50 ∧ F (N 8 i.toNatClampNeg)) := by rw [zk_view_ad (by decide)]; simp [zk_ild, zk_cell]
theorem zs_8 (i x : Int32) (F : va_E → Prop) : zk_ist (zk_view E (J, N, Q, O, U) (zk_ad E 8)) (zk_ar E 0) i x F = (vp_in i 50 ∧ F (.inl (zk_ar E 0, 50, .inl (upd (N 8) i.toNatClampNeg x)))) := by rw [zk_view_ad (by decide)]; simp [zk_ist, zk_cell]
theorem zw_8 (g : Nat → Int32) : zk_wrok E (J, N, Q, O, U) (zk_ad E 8) (.inl (zk_ar E 0, 50, .inl g)) = True := by unfold zk_wrok; rw [zk_st_ad (by decide)]; dsimp only; rw [zk_view_ad (by decide)]; simp [zk_like, zk_cell]
theorem zx_8 (g : Nat → Int32) : zk_wr E (J, N, Q, O, U) (zk_ad E 8) (.inl (zk_ar E 0, 50, .inl g)) = (J, zk_un N 8 g, Q, O, U) := by unfold zk_wr; rw [zk_st_ad (by decide)]; dsimp only; try (rw [zk_ix_ad (by decide)])
theorem zl_9 (F : Int32 → Prop) : zk_lenq E (zk_view E (J, N, Q, O, U) (zk_ad E 9)) F = F (Int32.ofNat 50) := by rw [zk_view_ad (by decide)]; simp [zk_lenq, zk_cell]
theorem za_9 (i : Int32) (F : Int32 → Prop) : zk_ild (zk_view E (J, N, Q, O, U) (zk_ad E 9)) (zk_ar E 0) i F = (vp_in i 50 ∧ F (N 9 i.toNatClampNeg)) := by rw [zk_view_ad (by decide)]; simp [zk_ild, zk_cell]
theorem zs_9 (i x : Int32) (F : va_E → Prop) : zk_ist (zk_view E (J, N, Q, O, U) (zk_ad E 9)) (zk_ar E 0) i x F = (vp_in i 50 ∧ F (.inl (zk_ar E 0, 50, .inl (upd (N 9) i.toNatClampNeg x)))) := by rw [zk_view_ad (by decide)]; simp [zk_ist, zk_cell]
theorem zw_9 (g : Nat → Int32) : zk_wrok E (J, N, Q, O, U) (zk_ad E 9) (.inl (zk_ar E 0, 50, .inl g)) = True := by unfold zk_wrok; rw [zk_st_ad (by decide)]; dsimp only; rw [zk_view_ad (by decide)]; simp [zk_like, zk_cell]
theorem zx_9 (g : Nat → Int32) : zk_wr E (J, N, Q, O, U) (zk_ad E 9) (.inl (zk_ar E 0, 50, .inl g)) = (J, zk_un N 9 g, Q, O, U) := by unfold zk_wr; rw [zk_st_ad (by decide)]; dsimp only; try (rw [zk_ix_ad (by decide)])
theorem zl_10 (F : Int32 → Prop) : zk_lenq E (zk_view E (J, N, Q, O, U) (zk_ad E 10)) F = F (Int32.ofNat 50) := by rw [zk_view_ad (by decide)]; simp [zk_lenq, zk_cell]
theorem za_10 (i : Int32) (F : Int32 → Prop) : zk_ild (zk_view E (J, N, Q, O, U) (zk_ad E 10)) (zk_ar E 0) i F = (vp_in i 50 ∧ F (N 10 i.toNatClampNeg)) := by rw [zk_view_ad (by decide)]; simp [zk_ild, zk_cell]
theorem zs_10 (i x : Int32) (F : va_E → Prop) : zk_ist (zk_view E (J, N, Q, O, U) (zk_ad E 10)) (zk_ar E 0) i x F = (vp_in i 50 ∧ F (.inl (zk_ar E 0, 50, .inl (upd (N 10) i.toNatClampNeg x)))) := by rw [zk_view_ad (by decide)]; simp [zk_ist, zk_cell]
theorem zw_10 (g : Nat → Int32) : zk_wrok E (J, N, Q, O, U) (zk_ad E 10) (.inl (zk_ar E 0, 50, .inl g)) = True := by unfold zk_wrok; rw [zk_st_ad (by decide)]; dsimp only; rw [zk_view_ad (by decide)]; simp [zk_like, zk_cell]
theorem zx_10 (g : Nat → Int32) : zk_wr E (J, N, Q, O, U) (zk_ad E 10) (.inl (zk_ar E 0, 50, .inl g)) = (J, zk_un N 10 g, Q, O, U) := by unfold zk_wr; rw [zk_st_ad (by decide)]; dsimp only; try (rw [zk_ix_ad (by decide)])
theorem zl_11 (F : Int32 → Prop) : zk_lenq E (zk_view E (J, N, Q, O, U) (zk_ad E 11)) F = F (Int32.ofNat 20) := by rw [zk_view_ad (by decide)]; simp [zk_lenq, zk_cell]
theorem za_11 (i : Int32) (F : Int32 → Prop) : zk_ild (zk_view E (J, N, Q, O, U) (zk_ad E 11)) (zk_ar E 0) i F = (vp_in i 20 ∧ F (N 11 i.toNatClampNeg)) := by rw [zk_view_ad (by decide)]; simp [zk_ild, zk_cell]
theorem zs_11 (i x : Int32) (F : va_E → Prop) : zk_ist (zk_view E (J, N, Q, O, U) (zk_ad E 11)) (zk_ar E 0) i x F = (vp_in i 20 ∧ F (.inl (zk_ar E 0, 20, .inl (upd (N 11) i.toNatClampNeg x)))) := by rw [zk_view_ad (by decide)]; simp [zk_ist, zk_cell]
theorem zw_11 (g : Nat → Int32) : zk_wrok E (J, N, Q, O, U) (zk_ad E 11) (.inl (zk_ar E 0, 20, .inl g)) = True := by unfold zk_wrok; rw [zk_st_ad (by decide)]; dsimp only; rw [zk_view_ad (by decide)]; simp [zk_like, zk_cell]
theorem zx_11 (g : Nat → Int32) : zk_wr E (J, N, Q, O, U) (zk_ad E 11) (.inl (zk_ar E 0, 20, .inl g)) = (J, zk_un N 11 g, Q, O, U) := by unfold zk_wr; rw [zk_st_ad (by decide)]; dsimp only; try (rw [zk_ix_ad (by decide)])
theorem zl_12 (F : Int32 → Prop) : zk_lenq E (zk_view E (J, N, Q, O, U) (zk_ad E 12)) F = F (Int32.ofNat 20) := by rw [zk_view_ad (by decide)]; simp [zk_lenq, zk_cell]
theorem za_12 (i : Int32) (F : Int32 → Prop) : zk_ild (zk_view E (J, N, Q, O, U) (zk_ad E 12)) (zk_ar E 0) i F = (vp_in i 20 ∧ F (N 12 i.toNatClampNeg)) := by rw [zk_view_ad (by decide)]; simp [zk_ild, zk_cell]
theorem zs_12 (i x : Int32) (F : va_E → Prop) : zk_ist (zk_view E (J, N, Q, O, U) (zk_ad E 12)) (zk_ar E 0) i x F = (vp_in i 20 ∧ F (.inl (zk_ar E 0, 20, .inl (upd (N 12) i.toNatClampNeg x)))) := by rw [zk_view_ad (by decide)]; simp [zk_ist, zk_cell]
theorem zw_12 (g : Nat → Int32) : zk_wrok E (J, N, Q, O, U) (zk_ad E 12) (.inl (zk_ar E 0, 20, .inl g)) = True := by unfold zk_wrok; rw [zk_st_ad (by decide)]; dsimp only; rw [zk_view_ad (by decide)]; simp [zk_like, zk_cell]
theorem zx_12 (g : Nat → Int32) : zk_wr E (J, N, Q, O, U) (zk_ad E 12) (.inl (zk_ar E 0, 20, .inl g)) = (J, zk_un N 12 g, Q, O, U) := by unfold zk_wr; rw [zk_st_ad (by decide)]; dsimp only; try (rw [zk_ix_ad (by decide)])
theorem zl_13 (F : Int32 → Prop) : zk_lenq E (zk_view E (J, N, Q, O, U) (zk_ad E 13)) F = F (Int32.ofNat 20) := by rw [zk_view_ad (by decide)]; simp [zk_lenq, zk_cell]
theorem za_13 (i : Int32) (F : Int32 → Prop) : zk_ild (zk_view E (J, N, Q, O, U) (zk_ad E 13)) (zk_ar E 0) i F = (vp_in i 20 ∧ F (N 13 i.toNatClampNeg)) := by rw [zk_view_ad (by decide)]; simp [zk_ild, zk_cell]
theorem zs_13 (i x : Int32) (F : va_E → Prop) : zk_ist (zk_view E (J, N, Q, O, U) (zk_ad E 13)) (zk_ar E 0) i x F = (vp_in i 20 ∧ F (.inl (zk_ar E 0, 20, .inl (upd (N 13) i.toNatClampNeg x)))) := by rw [zk_view_ad (by decide)]; simp [zk_ist, zk_cell]
theorem zw_13 (g : Nat → Int32) : zk_wrok E (J, N, Q, O, U) (zk_ad E 13) (.inl (zk_ar E 0, 20, .inl g)) = True := by unfold zk_wrok; rw [zk_st_ad (by decide)]; dsimp only; rw [zk_view_ad (by decide)]; simp [zk_like, zk_cell]
theorem zx_13 (g : Nat → Int32) : zk_wr E (J, N, Q, O, U) (zk_ad E 13) (.inl (zk_ar E 0, 20, .inl g)) = (J, zk_un N 13 g, Q, O, U) := by unfold zk_wr; rw [zk_st_ad (by decide)]; dsimp only; try (rw [zk_ix_ad (by decide)])
theorem zl_14 (F : Int32 → Prop) : zk_lenq E (zk_view E (J, N, Q, O, U) (zk_ad E 14)) F = F (Int32.ofNat 20) := by rw [zk_view_ad (by decide)]; simp [zk_lenq, zk_cell]
theorem za_14 (i : Int32) (F : Int32 → Prop) : zk_ild (zk_view E (J, N, Q, O, U) (zk_ad E 14)) (zk_ar E 0) i F = (vp_in i 20 ∧ F (N 14 i.toNatClampNeg)) := by rw [zk_view_ad (by decide)]; simp [zk_ild, zk_cell]
theorem zs_14 (i x : Int32) (F : va_E → Prop) : zk_ist (zk_view E (J, N, Q, O, U) (zk_ad E 14)) (zk_ar E 0) i x F = (vp_in i 20 ∧ F (.inl (zk_ar E 0, 20, .inl (upd (N 14) i.toNatClampNeg x)))) := by rw [zk_view_ad (by decide)]; simp [zk_ist, zk_cell]
theorem zw_14 (g : Nat → Int32) : zk_wrok E (J, N, Q, O, U) (zk_ad E 14) (.inl (zk_ar E 0, 20, .inl g)) = True := by unfold zk_wrok; rw [zk_st_ad (by decide)]; dsimp only; rw [zk_view_ad (by decide)]; simp [zk_like, zk_cell]
theorem zx_14 (g : Nat → Int32) : zk_wr E (J, N, Q, O, U) (zk_ad E 14) (.inl (zk_ar E 0, 20, .inl g)) = (J, zk_un N 14 g, Q, O, U) := by unfold zk_wr; rw [zk_st_ad (by decide)]; dsimp only; try (rw [zk_ix_ad (by decide)])
theorem zl_16 (F : Int32 → Prop) : zk_lenq E (zk_view E (J, N, Q, O, U) (zk_ad E 16)) F = F (Int32.ofNat 20) := by rw [zk_view_ad (by decide)]; simp [zk_lenq, zk_cell]
theorem za_16 (i : Int32) (F : Int32 → Prop) : zk_ild (zk_view E (J, N, Q, O, U) (zk_ad E 16)) (zk_ar E 0) i F = (vp_in i 20 ∧ F (N 16 i.toNatClampNeg)) := by rw [zk_view_ad (by decide)]; simp [zk_ild, zk_cell]
theorem zs_16 (i x : Int32) (F : va_E → Prop) : zk_ist (zk_view E (J, N, Q, O, U) (zk_ad E 16)) (zk_ar E 0) i x F = (vp_in i 20 ∧ F (.inl (zk_ar E 0, 20, .inl (upd (N 16) i.toNatClampNeg x)))) := by rw [zk_view_ad (by decide)]; simp [zk_ist, zk_cell]
theorem zw_16 (g : Nat → Int32) : zk_wrok E (J, N, Q, O, U) (zk_ad E 16) (.inl (zk_ar E 0, 20, .inl g)) = True := by unfold zk_wrok; rw [zk_st_ad (by decide)]; dsimp only; rw [zk_view_ad (by decide)]; simp [zk_like, zk_cell]
theorem zx_16 (g : Nat → Int32) : zk_wr E (J, N, Q, O, U) (zk_ad E 16) (.inl (zk_ar E 0, 20, .inl g)) = (J, zk_un N 16 g, Q, O, U) := by unfold zk_wr; rw [zk_st_ad (by decide)]; dsimp only; try (rw [zk_ix_ad (by decide)])
theorem zl_17 (F : Int32 → Prop) : zk_lenq E (zk_view E (J, N, Q, O, U) (zk_ad E 17)) F = F (Int32.ofNat 20) := by rw [zk_view_ad (by decide)]; simp [zk_lenq, zk_cell]
theorem za_17 (i : Int32) (F : Int32 → Prop) : zk_ild (zk_view E (J, N, Q, O, U) (zk_ad E 17)) (zk_ar E 0) i F = (vp_in i 20 ∧ F (N 17 i.toNatClampNeg)) := by rw [zk_view_ad (by decide)]; simp [zk_ild, zk_cell]
theorem zs_17 (i x : Int32) (F : va_E → Prop) : zk_ist (zk_view E (J, N, Q, O, U) (zk_ad E 17)) (zk_ar E 0) i x F = (vp_in i 20 ∧ F (.inl (zk_ar E 0, 20, .inl (upd (N 17) i.toNatClampNeg x)))) := by rw [zk_view_ad (by decide)]; simp [zk_ist, zk_cell]
theorem zw_17 (g : Nat → Int32) : zk_wrok E (J, N, Q, O, U) (zk_ad E 17) (.inl (zk_ar E 0, 20, .inl g)) = True := by unfold zk_wrok; rw [zk_st_ad (by decide)]; dsimp only; rw [zk_view_ad (by decide)]; simp [zk_like, zk_cell]
theorem zx_17 (g : Nat → Int32) : zk_wr E (J, N, Q, O, U) (zk_ad E 17) (.inl (zk_ar E 0, 20, .inl g)) = (J, zk_un N 17 g, Q, O, U) := by unfold zk_wr; rw [zk_st_ad (by decide)]; dsimp only; try (rw [zk_ix_ad (by decide)])
theorem zl_19 (F : Int32 → Prop) : zk_lenq E (zk_view E (J, N, Q, O, U) (zk_ad E 19)) F = F (Int32.ofNat 210) := by rw [zk_view_ad (by decide)]; simp [zk_lenq, zk_cell]
theorem za_19 (i : Int32) (F : Int32 → Prop) : zk_ild (zk_view E (J, N, Q, O, U) (zk_ad E 19)) (zk_ar E 0) i F = (vp_in i 210 ∧ F (N 19 i.toNatClampNeg)) := by rw [zk_view_ad (by decide)]; simp [zk_ild, zk_cell]
theorem zs_19 (i x : Int32) (F : va_E → Prop) : zk_ist (zk_view E (J, N, Q, O, U) (zk_ad E 19)) (zk_ar E 0) i x F = (vp_in i 210 ∧ F (.inl (zk_ar E 0, 210, .inl (upd (N 19) i.toNatClampNeg x)))) := by rw [zk_view_ad (by decide)]; simp [zk_ist, zk_cell]
theorem zw_19 (g : Nat → Int32) : zk_wrok E (J, N, Q, O, U) (zk_ad E 19) (.inl (zk_ar E 0, 210, .inl g)) = True := by unfold zk_wrok; rw [zk_st_ad (by decide)]; dsimp only; rw [zk_view_ad (by decide)]; simp [zk_like, zk_cell]
theorem zx_19 (g : Nat → Int32) : zk_wr E (J, N, Q, O, U) (zk_ad E 19) (.inl (zk_ar E 0, 210, .inl g)) = (J, zk_un N 19 g, Q, O, U) := by unfold zk_wr; rw [zk_st_ad (by decide)]; dsimp only; try (rw [zk_ix_ad (by decide)])
theorem zl_20 (F : Int32 → Prop) : zk_lenq E (zk_view E (J, N, Q, O, U) (zk_ad E 20)) F = F (Int32.ofNat 210) := by rw [zk_view_ad (by decide)]; simp [zk_lenq, zk_cell]
theorem za_20 (i : Int32) (F : Int32 → Prop) : zk_ild (zk_view E (J, N, Q, O, U) (zk_ad E 20)) (zk_ar E 0) i F = (vp_in i 210 ∧ F (N 20 i.toNatClampNeg)) := by rw [zk_view_ad (by decide)]; simp [zk_ild, zk_cell]
theorem zs_20 (i x : Int32) (F : va_E → Prop) : zk_ist (zk_view E (J, N, Q, O, U) (zk_ad E 20)) (zk_ar E 0) i x F = (vp_in i 210 ∧ F (.inl (zk_ar E 0, 210, .inl (upd (N 20) i.toNatClampNeg x)))) := by rw [zk_view_ad (by decide)]; simp [zk_ist, zk_cell]
theorem zw_20 (g : Nat → Int32) : zk_wrok E (J, N, Q, O, U) (zk_ad E 20) (.inl (zk_ar E 0, 210, .inl g)) = True := by unfold zk_wrok; rw [zk_st_ad (by decide)]; dsimp only; rw [zk_view_ad (by decide)]; simp [zk_like, zk_cell]
theorem zx_20 (g : Nat → Int32) : zk_wr E (J, N, Q, O, U) (zk_ad E 20) (.inl (zk_ar E 0, 210, .inl g)) = (J, zk_un N 20 g, Q, O, U) := by unfold zk_wr; rw [zk_st_ad (by decide)]; dsimp only; try (rw [zk_ix_ad (by decide)])
theorem zl_21 (F : Int32 → Prop) : zk_lenq E (zk_view E (J, N, Q, O, U) (zk_ad E 21)) F = F (Int32.ofNat 210) := by rw [zk_view_ad (by decide)]; simp [zk_lenq, zk_cell]
theorem za_21 (i : Int32) (F : Int32 → Prop) : zk_ild (zk_view E (J, N, Q, O, U) (zk_ad E 21)) (zk_ar E 0) i F = (vp_in i 210 ∧ F (N 21 i.toNatClampNeg)) := by rw [zk_view_ad (by decide)]; simp [zk_ild, zk_cell]
theorem zs_21 (i x : Int32) (F : va_E → Prop) : zk_ist (zk_view E (J, N, Q, O, U) (zk_ad E 21)) (zk_ar E 0) i x F = (vp_in i 210 ∧ F (.inl (zk_ar E 0, 210, .inl (upd (N 21) i.toNatClampNeg x)))) := by rw [zk_view_ad (by decide)]; simp [zk_ist, zk_cell]
theorem zw_21 (g : Nat → Int32) : zk_wrok E (J, N, Q, O, U) (zk_ad E 21) (.inl (zk_ar E 0, 210, .inl g)) = True := by unfold zk_wrok; rw [zk_st_ad (by decide)]; dsimp only; rw [zk_view_ad (by decide)]; simp [zk_like, zk_cell]
theorem zx_21 (g : Nat → Int32) : zk_wr E (J, N, Q, O, U) (zk_ad E 21) (.inl (zk_ar E 0, 210, .inl g)) = (J, zk_un N 21 g, Q, O, U) := by unfold zk_wr; rw [zk_st_ad (by decide)]; dsimp only; try (rw [zk_ix_ad (by decide)])
theorem zl_23 (F : Int32 → Prop) : zk_lenq E (zk_view E (J, N, Q, O, U) (zk_ad E 23)) F = F (Int32.ofNat 20) := by rw [zk_view_ad (by decide)]; simp [zk_lenq, zk_cell]
theorem za_23 (i : Int32) (F : Option Nat → Prop) : zk_qld (zk_view E (J, N, Q, O, U) (zk_ad E 23)) i [zk_ar E 3, zk_ar E 4, zk_ar E 5, zk_ar E 6, zk_ar E 7] F = (vp_in i 20 ∧ F (Q 23 i.toNatClampNeg)) := by rw [zk_view_ad (by decide)]; simp [zk_qld, zk_cell]
theorem zs_23 (i : Int32) (v n2 : Nat) (g : Nat → Int32) (F : va_E → Prop) : zk_qst E (zk_view E (J, N, Q, O, U) (zk_ad E 23)) (some (.inl (zk_ar E 0, n2, .inl g))) i v F = (E.1 + 28 ≤ v ∧ vp_in i 20 ∧ F (.inl (zk_ar E 7, 20, .inr (.inr (.inr (.inr (va_up (Q 23) i.toNatClampNeg (some v)))))))) := by rw [zk_view_ad (by decide)]; simp [zk_qst, zk_cell, zk_ar]
theorem zw_23 (g : Nat → Option Nat) : zk_wrok E (J, N, Q, O, U) (zk_ad E 23) (.inl (zk_ar E 7, 20, .inr (.inr (.inr (.inr g))))) = True := by unfold zk_wrok; rw [zk_st_ad (by decide)]; dsimp only; rw [zk_view_ad (by decide)]; simp [zk_like, zk_cell]
theorem zx_23 (g : Nat → Option Nat) : zk_wr E (J, N, Q, O, U) (zk_ad E 23) (.inl (zk_ar E 7, 20, .inr (.inr (.inr (.inr g))))) = (J, N, zk_un Q 23 g, O, U) := by unfold zk_wr; rw [zk_st_ad (by decide)]; dsimp only; try (rw [zk_ix_ad (by decide)])
theorem zl_24 (F : Int32 → Prop) : zk_lenq E (zk_view E (J, N, Q, O, U) (zk_ad E 24)) F = F (Int32.ofNat 40) := by rw [zk_view_ad (by decide)]; simp [zk_lenq, zk_cell]
theorem za_24 (i : Int32) (F : Option Nat → Prop) : zk_qld (zk_view E (J, N, Q, O, U) (zk_ad E 24)) i [zk_ar E 3, zk_ar E 4, zk_ar E 5, zk_ar E 6, zk_ar E 7] F = (vp_in i 40 ∧ F (Q 24 i.toNatClampNeg)) := by rw [zk_view_ad (by decide)]; simp [zk_qld, zk_cell]
theorem zs_24 (i : Int32) (v n2 : Nat) (g : Nat → Int32) (F : va_E → Prop) : zk_qst E (zk_view E (J, N, Q, O, U) (zk_ad E 24)) (some (.inl (zk_ar E 0, n2, .inl g))) i v F = (E.1 + 28 ≤ v ∧ vp_in i 40 ∧ F (.inl (zk_ar E 7, 40, .inr (.inr (.inr (.inr (va_up (Q 24) i.toNatClampNeg (some v)))))))) := by rw [zk_view_ad (by decide)]; simp [zk_qst, zk_cell, zk_ar]
theorem zw_24 (g : Nat → Option Nat) : zk_wrok E (J, N, Q, O, U) (zk_ad E 24) (.inl (zk_ar E 7, 40, .inr (.inr (.inr (.inr g))))) = True := by unfold zk_wrok; rw [zk_st_ad (by decide)]; dsimp only; rw [zk_view_ad (by decide)]; simp [zk_like, zk_cell]
theorem zx_24 (g : Nat → Option Nat) : zk_wr E (J, N, Q, O, U) (zk_ad E 24) (.inl (zk_ar E 7, 40, .inr (.inr (.inr (.inr g))))) = (J, N, zk_un Q 24 g, O, U) := by unfold zk_wr; rw [zk_st_ad (by decide)]; dsimp only; try (rw [zk_ix_ad (by decide)])
theorem zl_25 (F : Int32 → Prop) : zk_lenq E (zk_view E (J, N, Q, O, U) (zk_ad E 25)) F = F (Int32.ofNat 40) := by rw [zk_view_ad (by decide)]; simp [zk_lenq, zk_cell]
theorem za_25 (i : Int32) (F : Option Nat → Prop) : zk_qld (zk_view E (J, N, Q, O, U) (zk_ad E 25)) i [zk_ar E 3, zk_ar E 4, zk_ar E 5, zk_ar E 6, zk_ar E 7] F = (vp_in i 40 ∧ F (Q 25 i.toNatClampNeg)) := by rw [zk_view_ad (by decide)]; simp [zk_qld, zk_cell]
theorem zs_25 (i : Int32) (v n2 : Nat) (g : Nat → Int32) (F : va_E → Prop) : zk_qst E (zk_view E (J, N, Q, O, U) (zk_ad E 25)) (some (.inl (zk_ar E 0, n2, .inl g))) i v F = (E.1 + 28 ≤ v ∧ vp_in i 40 ∧ F (.inl (zk_ar E 7, 40, .inr (.inr (.inr (.inr (va_up (Q 25) i.toNatClampNeg (some v)))))))) := by rw [zk_view_ad (by decide)]; simp [zk_qst, zk_cell, zk_ar]
theorem zw_25 (g : Nat → Option Nat) : zk_wrok E (J, N, Q, O, U) (zk_ad E 25) (.inl (zk_ar E 7, 40, .inr (.inr (.inr (.inr g))))) = True := by unfold zk_wrok; rw [zk_st_ad (by decide)]; dsimp only; rw [zk_view_ad (by decide)]; simp [zk_like, zk_cell]
theorem zx_25 (g : Nat → Option Nat) : zk_wr E (J, N, Q, O, U) (zk_ad E 25) (.inl (zk_ar E 7, 40, .inr (.inr (.inr (.inr g))))) = (J, N, zk_un Q 25 g, O, U) := by unfold zk_wr; rw [zk_st_ad (by decide)]; dsimp only; try (rw [zk_ix_ad (by decide)])
theorem zl_26 (F : Int32 → Prop) : zk_lenq E (zk_view E (J, N, Q, O, U) (zk_ad E 26)) F = F (Int32.ofNat 10) := by rw [zk_view_ad (by decide)]; simp [zk_lenq, zk_cell]
theorem za_26 (i : Int32) (F : Option Nat → Prop) : zk_qld (zk_view E (J, N, Q, O, U) (zk_ad E 26)) i [zk_ar E 3, zk_ar E 4, zk_ar E 5, zk_ar E 6, zk_ar E 7] F = (vp_in i 10 ∧ F (Q 26 i.toNatClampNeg)) := by rw [zk_view_ad (by decide)]; simp [zk_qld, zk_cell]
theorem zs_26 (i : Int32) (v n2 : Nat) (g : Nat → Int32) (F : va_E → Prop) : zk_qst E (zk_view E (J, N, Q, O, U) (zk_ad E 26)) (some (.inl (zk_ar E 0, n2, .inl g))) i v F = (E.1 + 28 ≤ v ∧ vp_in i 10 ∧ F (.inl (zk_ar E 7, 10, .inr (.inr (.inr (.inr (va_up (Q 26) i.toNatClampNeg (some v)))))))) := by rw [zk_view_ad (by decide)]; simp [zk_qst, zk_cell, zk_ar]
theorem zw_26 (g : Nat → Option Nat) : zk_wrok E (J, N, Q, O, U) (zk_ad E 26) (.inl (zk_ar E 7, 10, .inr (.inr (.inr (.inr g))))) = True := by unfold zk_wrok; rw [zk_st_ad (by decide)]; dsimp only; rw [zk_view_ad (by decide)]; simp [zk_like, zk_cell]
theorem zx_26 (g : Nat → Option Nat) : zk_wr E (J, N, Q, O, U) (zk_ad E 26) (.inl (zk_ar E 7, 10, .inr (.inr (.inr (.inr g))))) = (J, N, zk_un Q 26 g, O, U) := by unfold zk_wr; rw [zk_st_ad (by decide)]; dsimp only; try (rw [zk_ix_ad (by decide)])
theorem zl_27 (F : Int32 → Prop) : zk_lenq E (zk_view E (J, N, Q, O, U) (zk_ad E 27)) F = F (Int32.ofNat 10) := by rw [zk_view_ad (by decide)]; simp [zk_lenq, zk_cell]
theorem za_27 (i : Int32) (F : Int32 → Prop) : zk_ild (zk_view E (J, N, Q, O, U) (zk_ad E 27)) (zk_ar E 0) i F = (vp_in i 10 ∧ F (N 27 i.toNatClampNeg)) := by rw [zk_view_ad (by decide)]; simp [zk_ild, zk_cell]
theorem zs_27 (i x : Int32) (F : va_E → Prop) : zk_ist (zk_view E (J, N, Q, O, U) (zk_ad E 27)) (zk_ar E 0) i x F = (vp_in i 10 ∧ F (.inl (zk_ar E 0, 10, .inl (upd (N 27) i.toNatClampNeg x)))) := by rw [zk_view_ad (by decide)]; simp [zk_ist, zk_cell]
theorem zw_27 (g : Nat → Int32) : zk_wrok E (J, N, Q, O, U) (zk_ad E 27) (.inl (zk_ar E 0, 10, .inl g)) = True := by unfold zk_wrok; rw [zk_st_ad (by decide)]; dsimp only; rw [zk_view_ad (by decide)]; simp [zk_like, zk_cell]
theorem zx_27 (g : Nat → Int32) : zk_wr E (J, N, Q, O, U) (zk_ad E 27) (.inl (zk_ar E 0, 10, .inl g)) = (J, zk_un N 27 g, Q, O, U) := by unfold zk_wr; rw [zk_st_ad (by decide)]; dsimp only; try (rw [zk_ix_ad (by decide)])
end ZV
