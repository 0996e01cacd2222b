/-! arrays and objects made on the way; the reference: beginning -/
theorem zk_std {E : zk_E} {a : Nat} (h : E.1 + 28 ≤ a) : zk_st E a = false := by
  unfold zk_st
  rw [decide_eq_false (p := a < E.1 + 28) (by omega), Bool.and_false]
theorem zk_vd {E : zk_E} {J N : Nat → Nat → Int32} {Q : Nat → Nat → Option Nat} {O : zk_Hp} {U : zk_U} {a : Nat} (h : E.1 + 28 ≤ a) : zk_view E (J, N, Q, O, U) a = O a := by
  unfold zk_view
  rw [decide_eq_false (p := a < E.1) (by omega), decide_eq_false (p := a < E.1 + 28) (by omega)]
theorem zk_wd {E : zk_E} {J N : Nat → Nat → Int32} {Q : Nat → Nat → Option Nat} {O : zk_Hp} {U : zk_U} {a : Nat} (e : va_E) (h : E.1 + 28 ≤ a) : zk_wr E (J, N, Q, O, U) a e = (J, N, Q, zk_up O a e, U) := by
  unfold zk_wr; rw [zk_std h]
theorem zk_wod {E : zk_E} {σ : zk_S} {a : Nat} (e : va_E) (h : E.1 + 28 ≤ a) : zk_wrok E σ a e = True := by
  unfold zk_wrok; rw [zk_std h]; exact eq_true h
theorem zk_pfd {E : zk_E} {J N : Nat → Nat → Int32} {Q : Nat → Nat → Option Nat} {O : zk_Hp} {U : zk_U} {a : Nat} (k : Nat) (v : Value) (h : E.1 + 28 ≤ a) : zk_pf E (J, N, Q, O, U) a k v = (J, N, Q, zk_po O a k v, U) := by
  unfold zk_pf; rw [zk_std h]
theorem zk_pod {E : zk_E} {σ : zk_S} {a : Nat} (k : Nat) (v : Value) (h : E.1 + 28 ≤ a) : zk_pfok E σ a k v = True := by
  unfold zk_pfok; rw [zk_std h]; exact eq_true h
theorem zk_up_same (O : zk_Hp) (a : Nat) (e : va_E) : zk_up O a e a = some e := by unfold zk_up; rw [if_pos rfl]
theorem zk_up_ne (O : zk_Hp) {a b : Nat} (e : va_E) (h : b ≠ a) : zk_up O a e b = O b := by unfold zk_up; rw [if_neg h]
theorem zk_up_up (O : zk_Hp) (a : Nat) (e e2 : va_E) : zk_up (zk_up O a e) a e2 = zk_up O a e2 := by funext q; unfold zk_up; split <;> rfl
theorem zk_ild_d (E : zk_E) (n : Nat) (f : Nat → Int32) (i : Int32) (F : Int32 → Prop) : zk_ild (some (.inl (zk_ar E 0, n, .inl f))) (zk_ar E 0) i F = (vp_in i n ∧ F (f i.toNatClampNeg)) := by simp [zk_ild]
theorem zk_ist_d (E : zk_E) (n : Nat) (f : Nat → Int32) (i x : Int32) (F : va_E → Prop) : zk_ist (some (.inl (zk_ar E 0, n, .inl f))) (zk_ar E 0) i x F = (vp_in i n ∧ F (.inl (zk_ar E 0, n, .inl (upd f i.toNatClampNeg x)))) := by simp [zk_ist]
def g_in (N : Nat → Nat → Int32) (n : Nat) : Nat → Int32 := fun k => if k < n ∧ ¬ N 23 k = -2 then N 29 k else 0
theorem g_in_0 (N : Nat → Nat → Int32) : g_in N 0 = fun _ => 0 := by funext k; unfold g_in; rw [if_neg (fun h => absurd h.1 (Nat.not_lt_zero k))]
theorem g_in_succ (N : Nat → Nat → Int32) (n : Nat) : upd (g_in N n) n (if N 23 n = -2 then 0 else N 29 n) = g_in N (n + 1) := by
  funext k
  by_cases h : k = n
  · subst h
    rw [upd_self]
    unfold g_in
    by_cases q : N 23 k = -2
    · rw [if_pos q, if_neg (fun w => w.2 q)]
    · rw [if_neg q, if_pos ⟨Nat.lt_succ_self k, q⟩]
  · rw [upd_ne _ _ h]
    unfold g_in
    by_cases q : k < n ∧ ¬ N 23 k = -2
    · rw [if_pos q, if_pos ⟨by omega, q.2⟩]
    · rw [if_neg q, if_neg (fun w => q ⟨by omega, w.2⟩)]

