/-! arrays and objects made on the way; the reference: beginning -/
theorem zk_std {E : zk_E} {a : Nat} (h : E.1 + 55 ≤ a) : zk_st E a = false := by
  unfold zk_st
  rw [decide_eq_false (p := a < E.1 + 55) (by omega), Bool.and_false]
theorem zk_vd {E : zk_E} {J N : Nat → Nat → Int32} {Q : Nat → Nat → Option Nat} {O : zk_Hp} {U : Nat → Int64} {a : Nat} (h : E.1 + 55 ≤ a) : zk_view E (J, N, Q, O, U) a = O a := by
  unfold zk_view
  rw [decide_eq_false (p := a < E.1) (by omega), decide_eq_false (p := a < E.1 + 55) (by omega)]
theorem zk_wd {E : zk_E} {J N : Nat → Nat → Int32} {Q : Nat → Nat → Option Nat} {O : zk_Hp} {U : Nat → Int64} {a : Nat} (e : va_E) (h : E.1 + 55 ≤ a) : zk_wr E (J, N, Q, O, U) a e = (J, N, Q, zk_up O a e, U) := by
  unfold zk_wr; rw [zk_std h]
theorem zk_wod {E : zk_E} {σ : zk_S} {a : Nat} (e : va_E) (h : E.1 + 55 ≤ a) : zk_wrok E σ a e = True := by
  unfold zk_wrok; rw [zk_std h]; exact eq_true h
theorem zk_pfd {E : zk_E} {J N : Nat → Nat → Int32} {Q : Nat → Nat → Option Nat} {O : zk_Hp} {U : Nat → Int64} {a : Nat} (k : Nat) (v : Value) (h : E.1 + 55 ≤ a) : zk_pf E (J, N, Q, O, U) a k v = (J, N, Q, zk_po O a k v, U) := by
  unfold zk_pf; rw [zk_std h]
theorem zk_pod {E : zk_E} {σ : zk_S} {a : Nat} (k : Nat) (v : Value) (h : E.1 + 55 ≤ a) : zk_pfok E σ a k v = True := by
  unfold zk_pfok; rw [zk_std h]
theorem zk_up_same (O : zk_Hp) (a : Nat) (e : va_E) : zk_up O a e a = some e := by unfold zk_up; rw [if_pos rfl]
theorem zk_up_ne (O : zk_Hp) {a b : Nat} (e : va_E) (h : b ≠ a) : zk_up O a e b = O b := by unfold zk_up; rw [if_neg h]
theorem zk_up_up (O : zk_Hp) (a : Nat) (e e2 : va_E) : zk_up (zk_up O a e) a e2 = zk_up O a e2 := by funext q; unfold zk_up; split <;> rfl
theorem zk_ild_d (E : zk_E) (n : Nat) (f : Nat → Int32) (i : Int32) (F : Int32 → Prop) : zk_ild (some (.inl (zk_ar E 0, n, .inl f))) (zk_ar E 0) i F = (vp_in i n ∧ F (f i.toNatClampNeg)) := by simp [zk_ild]
theorem zk_ist_d (E : zk_E) (n : Nat) (f : Nat → Int32) (i x : Int32) (F : va_E → Prop) : zk_ist (some (.inl (zk_ar E 0, n, .inl f))) (zk_ar E 0) i x F = (vp_in i n ∧ F (.inl (zk_ar E 0, n, .inl (upd f i.toNatClampNeg x)))) := by simp [zk_ist]
def g_in (N : Nat → Nat → Int32) (n : Nat) : Nat → Int32 := fun k => if k < n ∧ ¬ N 23 k = -2 then N 29 k else 0
theorem g_in_0 (N : Nat → Nat → Int32) : g_in N 0 = fun _ => 0 := by funext k; unfold g_in; rw [if_neg (fun h => absurd h.1 (Nat.not_lt_zero k))]
theorem g_in_succ (N : Nat → Nat → Int32) (n : Nat) : upd (g_in N n) n (if N 23 n = -2 then 0 else N 29 n) = g_in N (n + 1) := by
  funext k
  by_cases h : k = n
  · subst h
    rw [upd_self]
    unfold g_in
    by_cases q : N 23 k = -2
    · rw [if_pos q, if_neg (fun w => w.2 q)]
    · rw [if_neg q, if_pos ⟨Nat.lt_succ_self k, q⟩]
  · rw [upd_ne _ _ h]
    unfold g_in
    by_cases q : k < n ∧ ¬ N 23 k = -2
    · rw [if_pos q, if_pos ⟨by omega, q.2⟩]
    · rw [if_neg q, if_neg (fun w => q ⟨by omega, w.2⟩)]
def sp_X11_beginning (E : zk_E) : zk_Sp zk_S := fun av σ sz P PX => match av with
  | [.ref a] => a = zk_ad E 22 ∧ MS σ.1 ∧ E.1 + 55 ≤ sz ∧ P (some (.ref sz)) (σ.1, σ.2.1, σ.2.2.1, zk_up σ.2.2.2.1 sz (.inl (zk_ar E 0, 20, .inl (g_in σ.2.1 (m_nr σ.1)))), σ.2.2.2.2) (sz + 1)
  | _ => False
theorem spe_X11_beginning (E : zk_E) (a : Nat) (σ : zk_S) (sz : Nat) (P : zk_P zk_S) (PX : zk_X zk_S) : sp_X11_beginning E [.ref a] σ sz P PX = (a = zk_ad E 22 ∧ MS σ.1 ∧ E.1 + 55 ≤ sz ∧ P (some (.ref sz)) (σ.1, σ.2.1, σ.2.2.1, zk_up σ.2.2.2.1 sz (.inl (zk_ar E 0, 20, .inl (g_in σ.2.1 (m_nr σ.1)))), σ.2.2.2.2) (sz + 1)) := propext Iff.rfl
def C_X11_beginning (E : zk_E) : zk_Cl zk_S := zk_lka []
theorem r_X11_beginning (E : zk_E) (P : zk_P zk_S) (PX : zk_X zk_S) (K : Nat → zk_L → List Value → zk_W zk_S → Prop) : (∀ (n : Nat) (l0 l1 l2 : Option Value)  (r : List Value) (σ : zk_S) (sz k c : Nat), zk_run E (zk_VT E) M_X11_beginning (C_X11_beginning E) P PX K (n + 1) 0 [l0, l1, l2] r (σ, sz, k, c) = zk_run E (zk_VT E) M_X11_beginning (C_X11_beginning E) P PX K n 2 [l0, l1, l2] (.int (20) :: r) (σ, sz, k, c)) ∧
  (∀ (n : Nat) (l0 l1 l2 : Option Value) (x : Int32) (r : List Value) (σ : zk_S) (sz k c : Nat), zk_run E (zk_VT E) M_X11_beginning (C_X11_beginning E) P PX K (n + 1) 2 [l0, l1, l2] (.int x :: r) (σ, sz, k, c) = (¬ x < 0 ∧ x.toNatClampNeg ≤ 1000000 ∧ k + 1 ≤ 1 ∧ c + x.toNatClampNeg ≤ 20 ∧ zk_nar E .int x.toNatClampNeg (fun e => zk_wrok E σ sz e ∧ zk_run E (zk_VT E) M_X11_beginning (C_X11_beginning E) P PX K n 4 [l0, l1, l2] (.ref sz :: r) (zk_wr E σ sz e, sz + 1, k + 1, c + x.toNatClampNeg)))) ∧
  (∀ (n : Nat) (l0 l1 l2 : Option Value) (x : Value) (r : List Value) (σ : zk_S) (sz k c : Nat), zk_run E (zk_VT E) M_X11_beginning (C_X11_beginning E) P PX K (n + 1) 4 [l0, l1, l2] (x :: r) (σ, sz, k, c) = (zk_isr x ∧ zk_run E (zk_VT E) M_X11_beginning (C_X11_beginning E) P PX K n 5 [zk_kl l0, some (x), l2] r (σ, sz, k, c))) ∧
  (∀ (n : Nat) (l0 l1 l2 : Option Value)  (r : List Value) (σ : zk_S) (sz k c : Nat), zk_run E (zk_VT E) M_X11_beginning (C_X11_beginning E) P PX K (n + 1) 5 [l0, l1, l2] r (σ, sz, k, c) = zk_run E (zk_VT E) M_X11_beginning (C_X11_beginning E) P PX K n 6 [l0, l1, l2] (.int (0) :: r) (σ, sz, k, c)) ∧
  (∀ (n : Nat) (l0 l1 l2 : Option Value) (x : Int32) (r : List Value) (σ : zk_S) (sz k c : Nat), zk_run E (zk_VT E) M_X11_beginning (C_X11_beginning E) P PX K (n + 1) 6 [l0, l1, l2] (.int x :: r) (σ, sz, k, c) = zk_run E (zk_VT E) M_X11_beginning (C_X11_beginning E) P PX K n 7 [l0, zk_kl l1, some (.int x)] r (σ, sz, k, c)) ∧
  (∀ (n : Nat) (l0 l1 l2 : Option Value)  (r : List Value) (σ : zk_S) (sz k c : Nat), zk_run E (zk_VT E) M_X11_beginning (C_X11_beginning E) P PX K (n + 1) 7 [l0, l1, l2] r (σ, sz, k, c) = K 7 [l0, l1, l2] r (σ, sz, k, c)) ∧
  (∀ (n : Nat) (l1 l2 : Option Value) (y0 : Value) (r : List Value) (σ : zk_S) (sz k c : Nat), zk_run E (zk_VT E) M_X11_beginning (C_X11_beginning E) P PX K (n + 1) 8 [some y0, l1, l2] r (σ, sz, k, c) = (zk_isr y0 ∧ zk_run E (zk_VT E) M_X11_beginning (C_X11_beginning E) P PX K n 9 [some y0, l1, l2] (y0 :: r) (σ, sz, k, c))) ∧
  (∀ (n : Nat) (l0 l1 l2 : Option Value) (a : Nat) (r : List Value) (σ : zk_S) (sz k c : Nat), zk_run E (zk_VT E) M_X11_beginning (C_X11_beginning E) P PX K (n + 1) 9 [l0, l1, l2] (.ref a :: r) (σ, sz, k, c) = zk_fld (zk_view E σ a) [10] 1 (fun v => zk_run E (zk_VT E) M_X11_beginning (C_X11_beginning E) P PX K n 12 [l0, l1, l2] (v :: r) (σ, sz, k, c))) ∧
  (∀ (n : Nat) (l0 l1 l2 : Option Value) (x y : Int32) (r : List Value) (σ : zk_S) (sz k c : Nat), zk_run E (zk_VT E) M_X11_beginning (C_X11_beginning E) P PX K (n + 1) 12 [l0, l1, l2] (.int y :: .int x :: r) (σ, sz, k, c) = ((y ≤ x → zk_run E (zk_VT E) M_X11_beginning (C_X11_beginning E) P PX K n 45 [l0, l1, l2] r (σ, sz, k, c)) ∧ (¬ (y ≤ x) → zk_run E (zk_VT E) M_X11_beginning (C_X11_beginning E) P PX K n 15 [l0, l1, l2] r (σ, sz, k, c)))) ∧
  (∀ (n : Nat) (l0 l2 : Option Value) (y1 : Value) (r : List Value) (σ : zk_S) (sz k c : Nat), zk_run E (zk_VT E) M_X11_beginning (C_X11_beginning E) P PX K (n + 1) 15 [l0, some y1, l2] r (σ, sz, k, c) = (zk_isr y1 ∧ zk_run E (zk_VT E) M_X11_beginning (C_X11_beginning E) P PX K n 16 [l0, some y1, l2] (y1 :: r) (σ, sz, k, c))) ∧
  (∀ (n : Nat) (l0 l1 : Option Value) (y2 : Int32) (r : List Value) (σ : zk_S) (sz k c : Nat), zk_run E (zk_VT E) M_X11_beginning (C_X11_beginning E) P PX K (n + 1) 16 [l0, l1, some (.int y2)] r (σ, sz, k, c) = zk_run E (zk_VT E) M_X11_beginning (C_X11_beginning E) P PX K n 17 [l0, l1, some (.int y2)] (.int y2 :: r) (σ, sz, k, c)) ∧
  (∀ (n : Nat) (l1 l2 : Option Value) (y0 : Value) (r : List Value) (σ : zk_S) (sz k c : Nat), zk_run E (zk_VT E) M_X11_beginning (C_X11_beginning E) P PX K (n + 1) 17 [some y0, l1, l2] r (σ, sz, k, c) = (zk_isr y0 ∧ zk_run E (zk_VT E) M_X11_beginning (C_X11_beginning E) P PX K n 18 [some y0, l1, l2] (y0 :: r) (σ, sz, k, c))) ∧
  (∀ (n : Nat) (l0 l1 l2 : Option Value) (a : Nat) (r : List Value) (σ : zk_S) (sz k c : Nat), zk_run E (zk_VT E) M_X11_beginning (C_X11_beginning E) P PX K (n + 1) 18 [l0, l1, l2] (.ref a :: r) (σ, sz, k, c) = zk_fld (zk_view E σ a) [10] 2 (fun v => zk_run E (zk_VT E) M_X11_beginning (C_X11_beginning E) P PX K n 21 [l0, l1, l2] (v :: r) (σ, sz, k, c))) ∧
  (∀ (n : Nat) (l0 l1 : Option Value) (y2 : Int32) (r : List Value) (σ : zk_S) (sz k c : Nat), zk_run E (zk_VT E) M_X11_beginning (C_X11_beginning E) P PX K (n + 1) 21 [l0, l1, some (.int y2)] r (σ, sz, k, c) = zk_run E (zk_VT E) M_X11_beginning (C_X11_beginning E) P PX K n 22 [l0, l1, some (.int y2)] (.int y2 :: r) (σ, sz, k, c)) ∧
  (∀ (n : Nat) (l0 l1 l2 : Option Value) (a : Nat) (i : Int32) (r : List Value) (σ : zk_S) (sz k c : Nat), zk_run E (zk_VT E) M_X11_beginning (C_X11_beginning E) P PX K (n + 1) 22 [l0, l1, l2] (.int i :: .ref a :: r) (σ, sz, k, c) = zk_ild (zk_view E σ a) (zk_ar E 0) i (fun x => zk_run E (zk_VT E) M_X11_beginning (C_X11_beginning E) P PX K n 23 [l0, l1, l2] (.int x :: r) (σ, sz, k, c))) ∧
  (∀ (n : Nat) (l0 l1 l2 : Option Value)  (r : List Value) (σ : zk_S) (sz k c : Nat), zk_run E (zk_VT E) M_X11_beginning (C_X11_beginning E) P PX K (n + 1) 23 [l0, l1, l2] r (σ, sz, k, c) = zk_run E (zk_VT E) M_X11_beginning (C_X11_beginning E) P PX K n 25 [l0, l1, l2] (.int ((-2)) :: r) (σ, sz, k, c)) ∧
  (∀ (n : Nat) (l0 l1 l2 : Option Value) (x y : Int32) (r : List Value) (σ : zk_S) (sz k c : Nat), zk_run E (zk_VT E) M_X11_beginning (C_X11_beginning E) P PX K (n + 1) 25 [l0, l1, l2] (.int y :: .int x :: r) (σ, sz, k, c) = ((¬ x = y → zk_run E (zk_VT E) M_X11_beginning (C_X11_beginning E) P PX K n 32 [l0, l1, l2] r (σ, sz, k, c)) ∧ (¬ (¬ x = y) → zk_run E (zk_VT E) M_X11_beginning (C_X11_beginning E) P PX K n 28 [l0, l1, l2] r (σ, sz, k, c)))) ∧
  (∀ (n : Nat) (l0 l1 l2 : Option Value)  (r : List Value) (σ : zk_S) (sz k c : Nat), zk_run E (zk_VT E) M_X11_beginning (C_X11_beginning E) P PX K (n + 1) 28 [l0, l1, l2] r (σ, sz, k, c) = zk_run E (zk_VT E) M_X11_beginning (C_X11_beginning E) P PX K n 29 [l0, l1, l2] (.int (0) :: r) (σ, sz, k, c)) ∧
  (∀ (n : Nat) (l0 l1 l2 : Option Value)  (r : List Value) (σ : zk_S) (sz k c : Nat), zk_run E (zk_VT E) M_X11_beginning (C_X11_beginning E) P PX K (n + 1) 29 [l0, l1, l2] r (σ, sz, k, c) = zk_run E (zk_VT E) M_X11_beginning (C_X11_beginning E) P PX K n 38 [l0, l1, l2] r (σ, sz, k, c)) ∧
  (∀ (n : Nat) (l1 l2 : Option Value) (y0 : Value) (r : List Value) (σ : zk_S) (sz k c : Nat), zk_run E (zk_VT E) M_X11_beginning (C_X11_beginning E) P PX K (n + 1) 32 [some y0, l1, l2] r (σ, sz, k, c) = (zk_isr y0 ∧ zk_run E (zk_VT E) M_X11_beginning (C_X11_beginning E) P PX K n 33 [some y0, l1, l2] (y0 :: r) (σ, sz, k, c))) ∧
  (∀ (n : Nat) (l0 l1 l2 : Option Value) (a : Nat) (r : List Value) (σ : zk_S) (sz k c : Nat), zk_run E (zk_VT E) M_X11_beginning (C_X11_beginning E) P PX K (n + 1) 33 [l0, l1, l2] (.ref a :: r) (σ, sz, k, c) = zk_fld (zk_view E σ a) [10] 8 (fun v => zk_run E (zk_VT E) M_X11_beginning (C_X11_beginning E) P PX K n 36 [l0, l1, l2] (v :: r) (σ, sz, k, c))) ∧
  (∀ (n : Nat) (l0 l1 : Option Value) (y2 : Int32) (r : List Value) (σ : zk_S) (sz k c : Nat), zk_run E (zk_VT E) M_X11_beginning (C_X11_beginning E) P PX K (n + 1) 36 [l0, l1, some (.int y2)] r (σ, sz, k, c) = zk_run E (zk_VT E) M_X11_beginning (C_X11_beginning E) P PX K n 37 [l0, l1, some (.int y2)] (.int y2 :: r) (σ, sz, k, c)) ∧
  (∀ (n : Nat) (l0 l1 l2 : Option Value) (a : Nat) (i : Int32) (r : List Value) (σ : zk_S) (sz k c : Nat), zk_run E (zk_VT E) M_X11_beginning (C_X11_beginning E) P PX K (n + 1) 37 [l0, l1, l2] (.int i :: .ref a :: r) (σ, sz, k, c) = zk_ild (zk_view E σ a) (zk_ar E 0) i (fun x => zk_run E (zk_VT E) M_X11_beginning (C_X11_beginning E) P PX K n 38 [l0, l1, l2] (.int x :: r) (σ, sz, k, c))) ∧
  (∀ (n : Nat) (l0 l1 l2 : Option Value) (a : Nat) (i x : Int32) (r : List Value) (σ : zk_S) (sz k c : Nat), zk_run E (zk_VT E) M_X11_beginning (C_X11_beginning E) P PX K (n + 1) 38 [l0, l1, l2] (.int x :: .int i :: .ref a :: r) (σ, sz, k, c) = zk_ist (zk_view E σ a) (zk_ar E 0) i x (fun e => zk_wrok E σ a e ∧ zk_run E (zk_VT E) M_X11_beginning (C_X11_beginning E) P PX K n 39 [l0, l1, l2] r (zk_wr E σ a e, sz, k, c))) ∧
  (∀ (n : Nat) (l0 l1 : Option Value) (y2 : Int32) (r : List Value) (σ : zk_S) (sz k c : Nat), zk_run E (zk_VT E) M_X11_beginning (C_X11_beginning E) P PX K (n + 1) 39 [l0, l1, some (.int y2)] r (σ, sz, k, c) = zk_run E (zk_VT E) M_X11_beginning (C_X11_beginning E) P PX K n 42 [l0, zk_kl l1, some (.int (y2 + 1))] r (σ, sz, k, c)) ∧
  (∀ (n : Nat) (l0 l1 l2 : Option Value)  (r : List Value) (σ : zk_S) (sz k c : Nat), zk_run E (zk_VT E) M_X11_beginning (C_X11_beginning E) P PX K (n + 1) 42 [l0, l1, l2] r (σ, sz, k, c) = zk_run E (zk_VT E) M_X11_beginning (C_X11_beginning E) P PX K n 7 [l0, l1, l2] r (σ, sz, k, c)) ∧
  (∀ (n : Nat) (l0 l2 : Option Value) (y1 : Value) (r : List Value) (σ : zk_S) (sz k c : Nat), zk_run E (zk_VT E) M_X11_beginning (C_X11_beginning E) P PX K (n + 1) 45 [l0, some y1, l2] r (σ, sz, k, c) = (zk_isr y1 ∧ zk_run E (zk_VT E) M_X11_beginning (C_X11_beginning E) P PX K n 46 [l0, some y1, l2] (y1 :: r) (σ, sz, k, c))) ∧
  (∀ (n : Nat) (l0 l1 l2 : Option Value) (x : Value)  (σ : zk_S) (sz k c : Nat), zk_run E (zk_VT E) M_X11_beginning (C_X11_beginning E) P PX K (n + 1) 46 [l0, l1, l2] [x] (σ, sz, k, c) = (zk_isr x ∧ P (some (x)) σ sz ∧ k ≤ 1 ∧ c ≤ 20)) ∧
  (∀ (n : Nat) (l0 l1 l2 : Option Value) (r : List Value) (w : zk_W zk_S), zk_go E (zk_VT E) M_X11_beginning (C_X11_beginning E) P PX K n 0 [l0, l1, l2] r w = zk_run E (zk_VT E) M_X11_beginning (C_X11_beginning E) P PX K (n + 1) 0 [l0, l1, l2] r w) ∧
  (∀ (n : Nat) (l0 l1 : Option Value) (y2 : Int32) (r : List Value) (σ : zk_S) (sz k c : Nat), zk_go E (zk_VT E) M_X11_beginning (C_X11_beginning E) P PX K n 7 [l0, l1, some (.int y2)] r (σ, sz, k, c) = zk_run E (zk_VT E) M_X11_beginning (C_X11_beginning E) P PX K n 8 [l0, l1, some (.int y2)] (.int y2 :: r) (σ, sz, k, c)) := ⟨by intros; rfl, by intros; rfl, by intros; rfl, by intros; rfl, by intros; rfl, by intros; rfl, by intros; rfl, by intros; rfl, by intros; rfl, by intros; rfl, by intros; rfl, by intros; rfl, by intros; rfl, by intros; rfl, by intros; rfl, by intros; rfl, by intros; rfl, by intros; rfl, by intros; rfl, by intros; rfl, by intros; rfl, by intros; rfl, by intros; rfl, by intros; rfl, by intros; rfl, by intros; rfl, by intros; rfl, by intros; rfl, by intros; rfl, by intros; rfl⟩
theorem vc_X11_beginning (E : zk_E) : zk_VC E (zk_VT E) M_X11_beginning (C_X11_beginning E) 3 (sp_X11_beginning E) := by
  intro av σ sz P PX h
  obtain ⟨J, N, Q, O, U⟩ := σ
  unfold sp_X11_beginning at h
  split at h
  case h_2 => exact h.elim
  rename_i a0
  obtain ⟨rfl, h⟩ := h
  refine ⟨Nat.le_of_ble_eq_true rfl, fun G hG => ?_⟩
  change G 0 [some (.ref (zk_ad E 22)), none, none] [] ((J, N, Q, O, U), sz, 0, 0)
  try dsimp only at h
  obtain ⟨hms, hsz, h⟩ := h
  have hnr := hms.1.1
  have hnr20 := hms.1.2
  have loop : ∀ m r, r + m = m_nr J → G 7 [some (.ref (zk_ad E 22)), some (.ref sz), some (.int (nI r))] [] ((J, N, Q, zk_up O sz (.inl (zk_ar E 0, 20, .inl (g_in N r))), U), sz + 1, 1, 20) := by
    intro m
    induction m with
    | zero =>
      intro r hr
      have c1 : nI (m_nr J) ≤ nI r := nI_le (by omega) (by omega)
      (refine hG 900 _ _ _ _ ?_; simp only [r_X11_beginning, zk_kl_none, zk_kl_int, zk_kl_ref, zk_kl_null, zk_kl_long, zk_kl_rf, zk_isr_ref, zk_isr_null, zk_isr_rf9, zk_c1_int, zk_c1_ref, zk_c1_null, zk_c1_rf, zk_psh_some, zk_psh_none, zk_nok_int, zk_nok_bool0, zk_nok_bool1, zk_nok_b, zk_fok_0, zk_fok_1, zk_fok_2, zk_fok_n, zk_fok_rf, zb_f, zb_p, zb_i, zb_a, zb_s, zk_nth_0, zk_nth_s, zk_fld_o, zk_put_o, zk_rv_eq, zk_ri_eq, zk_is_o, List.mem_cons, List.not_mem_nil, or_false, false_or, or_true, true_or, and_true, true_and, not_false_iff, not_true_eq_false, true_implies, false_implies, imp_self, implies_true, forall_const, zk_lit, zk_uj_ap, zk_un_ap, zk_un_un, zk_uj_uj, Nat.reduceEqDiff, eq_self, zk_bq, Bool.true_or, Bool.false_or, Nat.le_refl, Nat.zero_add, Nat.add_zero, Nat.reduceAdd, Nat.reduceLeDiff, Nat.le_zero_eq, and_self, and_false, false_and, ite_true, ite_false, Nat.zero_le, List.length_cons, List.length_nil, Option.some.injEq, forall_eq', reduceCtorEq, hnr, c1])
      rw [show r = m_nr J by omega]
      exact h
    | succ m ih =>
      intro r hr
      have c1 : ¬ nI (m_nr J) ≤ nI r := nI_ge (by omega) (by omega)
      have ih2 := ih (r + 1) (by omega)
      have hin : vp_in (nI r) 20 := n_in (by omega) (by decide)
      have hcl : (nI r).toNatClampNeg = r := n_cl (by omega)
      rw [← g_in_succ] at ih2
      by_cases q : N 23 r = -2
      · rw [if_pos q] at ih2
        (refine hG 900 _ _ _ _ ?_; simp only [r_X11_beginning, zk_kl_none, zk_kl_int, zk_kl_ref, zk_kl_null, zk_kl_long, zk_kl_rf, zk_isr_ref, zk_isr_null, zk_isr_rf9, zk_c1_int, zk_c1_ref, zk_c1_null, zk_c1_rf, zk_psh_some, zk_psh_none, zk_nok_int, zk_nok_bool0, zk_nok_bool1, zk_nok_b, zk_fok_0, zk_fok_1, zk_fok_2, zk_fok_n, zk_fok_rf, zb_f, zb_p, zb_i, zb_a, zb_s, zk_nth_0, zk_nth_s, zk_fld_o, zk_put_o, zk_rv_eq, zk_ri_eq, zk_is_o, List.mem_cons, List.not_mem_nil, or_false, false_or, or_true, true_or, and_true, true_and, not_false_iff, not_true_eq_false, true_implies, false_implies, imp_self, implies_true, forall_const, zk_lit, zk_uj_ap, zk_un_ap, zk_un_un, zk_uj_uj, Nat.reduceEqDiff, eq_self, zk_bq, Bool.true_or, Bool.false_or, Nat.le_refl, Nat.zero_add, Nat.add_zero, Nat.reduceAdd, Nat.reduceLeDiff, Nat.le_zero_eq, and_self, and_false, false_and, ite_true, ite_false, Nat.zero_le, List.length_cons, List.length_nil, Option.some.injEq, forall_eq', reduceCtorEq, hnr, c1, hin, hcl, q, n_succ, zk_vd hsz, zk_wd _ hsz, zk_wod _ hsz, zk_up_same, zk_up_up, zk_ild_d, zk_ist_d])
        exact ih2
      · rw [if_neg q] at ih2
        (refine hG 900 _ _ _ _ ?_; simp only [r_X11_beginning, zk_kl_none, zk_kl_int, zk_kl_ref, zk_kl_null, zk_kl_long, zk_kl_rf, zk_isr_ref, zk_isr_null, zk_isr_rf9, zk_c1_int, zk_c1_ref, zk_c1_null, zk_c1_rf, zk_psh_some, zk_psh_none, zk_nok_int, zk_nok_bool0, zk_nok_bool1, zk_nok_b, zk_fok_0, zk_fok_1, zk_fok_2, zk_fok_n, zk_fok_rf, zb_f, zb_p, zb_i, zb_a, zb_s, zk_nth_0, zk_nth_s, zk_fld_o, zk_put_o, zk_rv_eq, zk_ri_eq, zk_is_o, List.mem_cons, List.not_mem_nil, or_false, false_or, or_true, true_or, and_true, true_and, not_false_iff, not_true_eq_false, true_implies, false_implies, imp_self, implies_true, forall_const, zk_lit, zk_uj_ap, zk_un_ap, zk_un_un, zk_uj_uj, Nat.reduceEqDiff, eq_self, zk_bq, Bool.true_or, Bool.false_or, Nat.le_refl, Nat.zero_add, Nat.add_zero, Nat.reduceAdd, Nat.reduceLeDiff, Nat.le_zero_eq, and_self, and_false, false_and, ite_true, ite_false, Nat.zero_le, List.length_cons, List.length_nil, Option.some.injEq, forall_eq', reduceCtorEq, hnr, c1, hin, hcl, q, n_succ, zk_vd hsz, zk_wd _ hsz, zk_wod _ hsz, zk_up_same, zk_up_up, zk_ild_d, zk_ist_d])
        exact ih2
  have l0 := loop (m_nr J) 0 (by omega)
  rw [g_in_0] at l0
  have c9 : ¬ (20 : Int32) < 0 := by decide
  have c8 : (20 : Int32).toNatClampNeg = 20 := rfl
  (refine hG 900 _ _ _ _ ?_; simp only [r_X11_beginning, zk_kl_none, zk_kl_int, zk_kl_ref, zk_kl_null, zk_kl_long, zk_kl_rf, zk_isr_ref, zk_isr_null, zk_isr_rf9, zk_c1_int, zk_c1_ref, zk_c1_null, zk_c1_rf, zk_psh_some, zk_psh_none, zk_nok_int, zk_nok_bool0, zk_nok_bool1, zk_nok_b, zk_fok_0, zk_fok_1, zk_fok_2, zk_fok_n, zk_fok_rf, zb_f, zb_p, zb_i, zb_a, zb_s, zk_nth_0, zk_nth_s, zk_fld_o, zk_put_o, zk_rv_eq, zk_ri_eq, zk_is_o, List.mem_cons, List.not_mem_nil, or_false, false_or, or_true, true_or, and_true, true_and, not_false_iff, not_true_eq_false, true_implies, false_implies, imp_self, implies_true, forall_const, zk_lit, zk_uj_ap, zk_un_ap, zk_un_un, zk_uj_uj, Nat.reduceEqDiff, eq_self, zk_bq, Bool.true_or, Bool.false_or, Nat.le_refl, Nat.zero_add, Nat.add_zero, Nat.reduceAdd, Nat.reduceLeDiff, Nat.le_zero_eq, and_self, and_false, false_and, ite_true, ite_false, Nat.zero_le, List.length_cons, List.length_nil, Option.some.injEq, forall_eq', reduceCtorEq, c9, c8, zk_wd _ hsz, zk_wod _ hsz])
  exact l0
theorem ct_X11_beginning {l : Launch} (hl : l.stackTraces = false) (E : zk_E) : zk_C l E (zk_VT E) yX11_beginning cX11_beginning 3 (some (.array .int)) rm_X11_beginning (sp_X11_beginning E) := by
  refine zk_meth (M := M_X11_beginning) (C := C_X11_beginning E) hl (by decide +kernel) rfl (fun _ _ => rfl) (zk_VT_ok E) MO_X11_beginning TO_X11_beginning THo_X11_beginning ?_ (vc_X11_beginning E)
  exact fun p e s m args below meth c X pc n mc ms sp2 h => absurd (zk_lka_mem h) List.not_mem_nil

