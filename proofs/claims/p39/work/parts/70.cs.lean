/-! the class: faults -/
/-- what is reckoned, but for the faults -/
def CC (J N N1 : Nat → Nat → Int32) : Prop := WA J N N1 ∧ (∀ k, k < 50 → N1 10 k = a_load J N k) ∧ ∀ k, k < 20 → N1 11 k = bex (lea J N k) ∧ N1 12 k = a_mid J N k ∧ N1 13 k = a_far J N k ∧ N1 14 k = g_deep J N k
theorem CC.wl {J N N1 : Nat → Nat → Int32} (h : CC J N N1) : WLv J N N1 := fun k hk => (h.2.2 k hk).1
theorem CC.wd {J N N1 : Nat → Nat → Int32} (h : CC J N N1) : WDp J N N1 := fun k hk => (h.2.2 k hk).2.2.2
theorem CC.same {J N N1 N2 : Nat → Nat → Int32} (h : CC J N N1) (hn : ∀ o, 8 ≤ o → o ≤ 14 → N2 o = N1 o) : CC J N N2 := by
  unfold CC WA at h ⊢
  rw [hn 8 (by decide) (by decide), hn 9 (by decide) (by decide), hn 10 (by decide) (by decide), hn 11 (by decide) (by decide), hn 12 (by decide) (by decide), hn 13 (by decide) (by decide), hn 14 (by decide) (by decide)]
  exact h
def FTC (N1 : Nat → Nat → Int32) (L : zk_F3) : Prop := ∀ i (h : i < L.length), N1 19 i = L[i].1 ∧ N1 20 i = L[i].2.1 ∧ N1 21 i = L[i].2.2
def tlN (N : Nat → Nat → Int32) (n : Nat) (q w m : Int32) : Nat → Nat → Int32 := zk_un (zk_un (zk_un N 19 (upd (N 19) n q)) 20 (upd (N 20) n w)) 21 (upd (N 21) n m)
theorem FTC.app {N1 : Nat → Nat → Int32} {L : zk_F3} {q w m : Int32} (h : FTC N1 L) : FTC (tlN N1 L.length q w m) (L ++ [(q, w, m)]) := by
  intro i hi
  rw [List.length_append, List.length_singleton] at hi
  show upd (N1 19) L.length q i = _ ∧ upd (N1 20) L.length w i = _ ∧ upd (N1 21) L.length m i = _
  by_cases e : i = L.length
  · subst e
    rw [List.getElem_append_right (Nat.le_refl _)]
    simp only [Nat.sub_self, List.getElem_cons_zero]
    rw [upd_self, upd_self, upd_self]
    exact ⟨rfl, rfl, rfl⟩
  · have hi2 : i < L.length := by omega
    rw [List.getElem_append_left hi2, upd_ne _ _ e, upd_ne _ _ e, upd_ne _ _ e]
    exact h i hi2
def sp_X3_tell (E : zk_E) : zk_Sp zk_S := fun av σ sz P PX => match av with
  | [.ref a, .int q, .int w, .int m] => a = zk_ad E 18 ∧ (∃ n, n < 210 ∧ σ.1 18 3 = nI n) ∧ (m ≤ 0 → P none σ sz) ∧ (¬ m ≤ 0 → P none (zk_uj σ.1 18 3 (σ.1 18 3 + 1), tlN σ.2.1 (σ.1 18 3).toNatClampNeg q w m, σ.2.2) sz)
  | _ => False
theorem spe_X3_tell (E : zk_E) (a : Nat) (q : Int32) (w : Int32) (m : Int32) (σ : zk_S) (sz : Nat) (P : zk_P zk_S) (PX : zk_X zk_S) : sp_X3_tell E [.ref a, .int q, .int w, .int m] σ sz P PX = (a = zk_ad E 18 ∧ (∃ n, n < 210 ∧ σ.1 18 3 = nI n) ∧ (m ≤ 0 → P none σ sz) ∧ (¬ m ≤ 0 → P none (zk_uj σ.1 18 3 (σ.1 18 3 + 1), tlN σ.2.1 (σ.1 18 3).toNatClampNeg q w m, σ.2.2) sz)) := propext Iff.rfl
def C_X3_tell (E : zk_E) : zk_Cl zk_S := zk_lka []
theorem r_X3_tell (E : zk_E) (P : zk_P zk_S) (PX : zk_X zk_S) (K : Nat → zk_L → List Value → zk_W zk_S → Prop) : (∀ (n : Nat) (l0 l1 l2 : Option Value) (y3 : Int32) (r : List Value) (σ : zk_S) (sz k c : Nat), zk_run E (zk_VT E) M_X3_tell (C_X3_tell E) P PX K (n + 1) 0 [l0, l1, l2, some (.int y3)] r (σ, sz, k, c) = zk_run E (zk_VT E) M_X3_tell (C_X3_tell E) P PX K n 1 [l0, l1, l2, some (.int y3)] (.int y3 :: r) (σ, sz, k, c)) ∧
  (∀ (n : Nat) (l0 l1 l2 l3 : Option Value) (x : Int32) (r : List Value) (σ : zk_S) (sz k c : Nat), zk_run E (zk_VT E) M_X3_tell (C_X3_tell E) P PX K (n + 1) 1 [l0, l1, l2, l3] (.int x :: r) (σ, sz, k, c) = ((x ≤ 0 → zk_run E (zk_VT E) M_X3_tell (C_X3_tell E) P PX K n 54 [l0, l1, l2, l3] r (σ, sz, k, c)) ∧ (¬ (x ≤ 0) → zk_run E (zk_VT E) M_X3_tell (C_X3_tell E) P PX K n 4 [l0, l1, l2, l3] r (σ, sz, k, c)))) ∧
  (∀ (n : Nat) (l1 l2 l3 : Option Value) (y0 : Value) (r : List Value) (σ : zk_S) (sz k c : Nat), zk_run E (zk_VT E) M_X3_tell (C_X3_tell E) P PX K (n + 1) 4 [some y0, l1, l2, l3] r (σ, sz, k, c) = (zk_isr y0 ∧ zk_run E (zk_VT E) M_X3_tell (C_X3_tell E) P PX K n 5 [some y0, l1, l2, l3] (y0 :: r) (σ, sz, k, c))) ∧
  (∀ (n : Nat) (l0 l1 l2 l3 : Option Value) (a : Nat) (r : List Value) (σ : zk_S) (sz k c : Nat), zk_run E (zk_VT E) M_X3_tell (C_X3_tell E) P PX K (n + 1) 5 [l0, l1, l2, l3] (.ref a :: r) (σ, sz, k, c) = zk_fld (zk_view E σ a) [2] 3 (fun v => zk_run E (zk_VT E) M_X3_tell (C_X3_tell E) P PX K n 8 [l0, l1, l2, l3] (v :: r) (σ, sz, k, c))) ∧
  (∀ (n : Nat) (l0 l1 l2 l3 : Option Value)  (r : List Value) (σ : zk_S) (sz k c : Nat), zk_run E (zk_VT E) M_X3_tell (C_X3_tell E) P PX K (n + 1) 8 [l0, l1, l2, l3] r (σ, sz, k, c) = zk_run E (zk_VT E) M_X3_tell (C_X3_tell E) P PX K n 11 [l0, l1, l2, l3] (.int (210) :: r) (σ, sz, k, c)) ∧
  (∀ (n : Nat) (l0 l1 l2 l3 : Option Value) (x y : Int32) (r : List Value) (σ : zk_S) (sz k c : Nat), zk_run E (zk_VT E) M_X3_tell (C_X3_tell E) P PX K (n + 1) 11 [l0, l1, l2, l3] (.int y :: .int x :: r) (σ, sz, k, c) = ((y ≤ x → zk_run E (zk_VT E) M_X3_tell (C_X3_tell E) P PX K n 54 [l0, l1, l2, l3] r (σ, sz, k, c)) ∧ (¬ (y ≤ x) → zk_run E (zk_VT E) M_X3_tell (C_X3_tell E) P PX K n 14 [l0, l1, l2, l3] r (σ, sz, k, c)))) ∧
  (∀ (n : Nat) (l1 l2 l3 : Option Value) (y0 : Value) (r : List Value) (σ : zk_S) (sz k c : Nat), zk_run E (zk_VT E) M_X3_tell (C_X3_tell E) P PX K (n + 1) 14 [some y0, l1, l2, l3] r (σ, sz, k, c) = (zk_isr y0 ∧ zk_run E (zk_VT E) M_X3_tell (C_X3_tell E) P PX K n 15 [some y0, l1, l2, l3] (y0 :: r) (σ, sz, k, c))) ∧
  (∀ (n : Nat) (l0 l1 l2 l3 : Option Value) (a : Nat) (r : List Value) (σ : zk_S) (sz k c : Nat), zk_run E (zk_VT E) M_X3_tell (C_X3_tell E) P PX K (n + 1) 15 [l0, l1, l2, l3] (.ref a :: r) (σ, sz, k, c) = zk_fld (zk_view E σ a) [2] 0 (fun v => zk_run E (zk_VT E) M_X3_tell (C_X3_tell E) P PX K n 18 [l0, l1, l2, l3] (v :: r) (σ, sz, k, c))) ∧
  (∀ (n : Nat) (l1 l2 l3 : Option Value) (y0 : Value) (r : List Value) (σ : zk_S) (sz k c : Nat), zk_run E (zk_VT E) M_X3_tell (C_X3_tell E) P PX K (n + 1) 18 [some y0, l1, l2, l3] r (σ, sz, k, c) = (zk_isr y0 ∧ zk_run E (zk_VT E) M_X3_tell (C_X3_tell E) P PX K n 19 [some y0, l1, l2, l3] (y0 :: r) (σ, sz, k, c))) ∧
  (∀ (n : Nat) (l0 l1 l2 l3 : Option Value) (a : Nat) (r : List Value) (σ : zk_S) (sz k c : Nat), zk_run E (zk_VT E) M_X3_tell (C_X3_tell E) P PX K (n + 1) 19 [l0, l1, l2, l3] (.ref a :: r) (σ, sz, k, c) = zk_fld (zk_view E σ a) [2] 3 (fun v => zk_run E (zk_VT E) M_X3_tell (C_X3_tell E) P PX K n 22 [l0, l1, l2, l3] (v :: r) (σ, sz, k, c))) ∧
  (∀ (n : Nat) (l0 l2 l3 : Option Value) (y1 : Int32) (r : List Value) (σ : zk_S) (sz k c : Nat), zk_run E (zk_VT E) M_X3_tell (C_X3_tell E) P PX K (n + 1) 22 [l0, some (.int y1), l2, l3] r (σ, sz, k, c) = zk_run E (zk_VT E) M_X3_tell (C_X3_tell E) P PX K n 23 [l0, some (.int y1), l2, l3] (.int y1 :: r) (σ, sz, k, c)) ∧
  (∀ (n : Nat) (l0 l1 l2 l3 : Option Value) (a : Nat) (i x : Int32) (r : List Value) (σ : zk_S) (sz k c : Nat), zk_run E (zk_VT E) M_X3_tell (C_X3_tell E) P PX K (n + 1) 23 [l0, l1, l2, l3] (.int x :: .int i :: .ref a :: r) (σ, sz, k, c) = zk_ist (zk_view E σ a) (zk_ar E 0) i x (fun e => zk_wrok E σ a e ∧ zk_run E (zk_VT E) M_X3_tell (C_X3_tell E) P PX K n 24 [l0, l1, l2, l3] r (zk_wr E σ a e, sz, k, c))) ∧
  (∀ (n : Nat) (l1 l2 l3 : Option Value) (y0 : Value) (r : List Value) (σ : zk_S) (sz k c : Nat), zk_run E (zk_VT E) M_X3_tell (C_X3_tell E) P PX K (n + 1) 24 [some y0, l1, l2, l3] r (σ, sz, k, c) = (zk_isr y0 ∧ zk_run E (zk_VT E) M_X3_tell (C_X3_tell E) P PX K n 25 [some y0, l1, l2, l3] (y0 :: r) (σ, sz, k, c))) ∧
  (∀ (n : Nat) (l0 l1 l2 l3 : Option Value) (a : Nat) (r : List Value) (σ : zk_S) (sz k c : Nat), zk_run E (zk_VT E) M_X3_tell (C_X3_tell E) P PX K (n + 1) 25 [l0, l1, l2, l3] (.ref a :: r) (σ, sz, k, c) = zk_fld (zk_view E σ a) [2] 1 (fun v => zk_run E (zk_VT E) M_X3_tell (C_X3_tell E) P PX K n 28 [l0, l1, l2, l3] (v :: r) (σ, sz, k, c))) ∧
  (∀ (n : Nat) (l1 l2 l3 : Option Value) (y0 : Value) (r : List Value) (σ : zk_S) (sz k c : Nat), zk_run E (zk_VT E) M_X3_tell (C_X3_tell E) P PX K (n + 1) 28 [some y0, l1, l2, l3] r (σ, sz, k, c) = (zk_isr y0 ∧ zk_run E (zk_VT E) M_X3_tell (C_X3_tell E) P PX K n 29 [some y0, l1, l2, l3] (y0 :: r) (σ, sz, k, c))) ∧
  (∀ (n : Nat) (l0 l1 l2 l3 : Option Value) (a : Nat) (r : List Value) (σ : zk_S) (sz k c : Nat), zk_run E (zk_VT E) M_X3_tell (C_X3_tell E) P PX K (n + 1) 29 [l0, l1, l2, l3] (.ref a :: r) (σ, sz, k, c) = zk_fld (zk_view E σ a) [2] 3 (fun v => zk_run E (zk_VT E) M_X3_tell (C_X3_tell E) P PX K n 32 [l0, l1, l2, l3] (v :: r) (σ, sz, k, c))) ∧
  (∀ (n : Nat) (l0 l1 l3 : Option Value) (y2 : Int32) (r : List Value) (σ : zk_S) (sz k c : Nat), zk_run E (zk_VT E) M_X3_tell (C_X3_tell E) P PX K (n + 1) 32 [l0, l1, some (.int y2), l3] r (σ, sz, k, c) = zk_run E (zk_VT E) M_X3_tell (C_X3_tell E) P PX K n 33 [l0, l1, some (.int y2), l3] (.int y2 :: r) (σ, sz, k, c)) ∧
  (∀ (n : Nat) (l0 l1 l2 l3 : Option Value) (a : Nat) (i x : Int32) (r : List Value) (σ : zk_S) (sz k c : Nat), zk_run E (zk_VT E) M_X3_tell (C_X3_tell E) P PX K (n + 1) 33 [l0, l1, l2, l3] (.int x :: .int i :: .ref a :: r) (σ, sz, k, c) = zk_ist (zk_view E σ a) (zk_ar E 0) i x (fun e => zk_wrok E σ a e ∧ zk_run E (zk_VT E) M_X3_tell (C_X3_tell E) P PX K n 34 [l0, l1, l2, l3] r (zk_wr E σ a e, sz, k, c))) ∧
  (∀ (n : Nat) (l1 l2 l3 : Option Value) (y0 : Value) (r : List Value) (σ : zk_S) (sz k c : Nat), zk_run E (zk_VT E) M_X3_tell (C_X3_tell E) P PX K (n + 1) 34 [some y0, l1, l2, l3] r (σ, sz, k, c) = (zk_isr y0 ∧ zk_run E (zk_VT E) M_X3_tell (C_X3_tell E) P PX K n 35 [some y0, l1, l2, l3] (y0 :: r) (σ, sz, k, c))) ∧
  (∀ (n : Nat) (l0 l1 l2 l3 : Option Value) (a : Nat) (r : List Value) (σ : zk_S) (sz k c : Nat), zk_run E (zk_VT E) M_X3_tell (C_X3_tell E) P PX K (n + 1) 35 [l0, l1, l2, l3] (.ref a :: r) (σ, sz, k, c) = zk_fld (zk_view E σ a) [2] 2 (fun v => zk_run E (zk_VT E) M_X3_tell (C_X3_tell E) P PX K n 38 [l0, l1, l2, l3] (v :: r) (σ, sz, k, c))) ∧
  (∀ (n : Nat) (l1 l2 l3 : Option Value) (y0 : Value) (r : List Value) (σ : zk_S) (sz k c : Nat), zk_run E (zk_VT E) M_X3_tell (C_X3_tell E) P PX K (n + 1) 38 [some y0, l1, l2, l3] r (σ, sz, k, c) = (zk_isr y0 ∧ zk_run E (zk_VT E) M_X3_tell (C_X3_tell E) P PX K n 39 [some y0, l1, l2, l3] (y0 :: r) (σ, sz, k, c))) ∧
  (∀ (n : Nat) (l0 l1 l2 l3 : Option Value) (a : Nat) (r : List Value) (σ : zk_S) (sz k c : Nat), zk_run E (zk_VT E) M_X3_tell (C_X3_tell E) P PX K (n + 1) 39 [l0, l1, l2, l3] (.ref a :: r) (σ, sz, k, c) = zk_fld (zk_view E σ a) [2] 3 (fun v => zk_run E (zk_VT E) M_X3_tell (C_X3_tell E) P PX K n 42 [l0, l1, l2, l3] (v :: r) (σ, sz, k, c))) ∧
  (∀ (n : Nat) (l0 l1 l2 : Option Value) (y3 : Int32) (r : List Value) (σ : zk_S) (sz k c : Nat), zk_run E (zk_VT E) M_X3_tell (C_X3_tell E) P PX K (n + 1) 42 [l0, l1, l2, some (.int y3)] r (σ, sz, k, c) = zk_run E (zk_VT E) M_X3_tell (C_X3_tell E) P PX K n 43 [l0, l1, l2, some (.int y3)] (.int y3 :: r) (σ, sz, k, c)) ∧
  (∀ (n : Nat) (l0 l1 l2 l3 : Option Value) (a : Nat) (i x : Int32) (r : List Value) (σ : zk_S) (sz k c : Nat), zk_run E (zk_VT E) M_X3_tell (C_X3_tell E) P PX K (n + 1) 43 [l0, l1, l2, l3] (.int x :: .int i :: .ref a :: r) (σ, sz, k, c) = zk_ist (zk_view E σ a) (zk_ar E 0) i x (fun e => zk_wrok E σ a e ∧ zk_run E (zk_VT E) M_X3_tell (C_X3_tell E) P PX K n 44 [l0, l1, l2, l3] r (zk_wr E σ a e, sz, k, c))) ∧
  (∀ (n : Nat) (l1 l2 l3 : Option Value) (y0 : Value) (r : List Value) (σ : zk_S) (sz k c : Nat), zk_run E (zk_VT E) M_X3_tell (C_X3_tell E) P PX K (n + 1) 44 [some y0, l1, l2, l3] r (σ, sz, k, c) = (zk_isr y0 ∧ zk_run E (zk_VT E) M_X3_tell (C_X3_tell E) P PX K n 45 [some y0, l1, l2, l3] (y0 :: r) (σ, sz, k, c))) ∧
  (∀ (n : Nat) (l0 l1 l2 l3 : Option Value) (v : Value) (r : List Value) (σ : zk_S) (sz k c : Nat), zk_run E (zk_VT E) M_X3_tell (C_X3_tell E) P PX K (n + 1) 45 [l0, l1, l2, l3] (v :: r) (σ, sz, k, c) = (zk_c1 v ∧ zk_run E (zk_VT E) M_X3_tell (C_X3_tell E) P PX K n 46 [l0, l1, l2, l3] (v :: v :: r) (σ, sz, k, c))) ∧
  (∀ (n : Nat) (l0 l1 l2 l3 : Option Value) (a : Nat) (r : List Value) (σ : zk_S) (sz k c : Nat), zk_run E (zk_VT E) M_X3_tell (C_X3_tell E) P PX K (n + 1) 46 [l0, l1, l2, l3] (.ref a :: r) (σ, sz, k, c) = zk_fld (zk_view E σ a) [2] 3 (fun v => zk_run E (zk_VT E) M_X3_tell (C_X3_tell E) P PX K n 49 [l0, l1, l2, l3] (v :: r) (σ, sz, k, c))) ∧
  (∀ (n : Nat) (l0 l1 l2 l3 : Option Value)  (r : List Value) (σ : zk_S) (sz k c : Nat), zk_run E (zk_VT E) M_X3_tell (C_X3_tell E) P PX K (n + 1) 49 [l0, l1, l2, l3] r (σ, sz, k, c) = zk_run E (zk_VT E) M_X3_tell (C_X3_tell E) P PX K n 50 [l0, l1, l2, l3] (.int (1) :: r) (σ, sz, k, c)) ∧
  (∀ (n : Nat) (l0 l1 l2 l3 : Option Value) (x y : Int32) (r : List Value) (σ : zk_S) (sz k c : Nat), zk_run E (zk_VT E) M_X3_tell (C_X3_tell E) P PX K (n + 1) 50 [l0, l1, l2, l3] (.int y :: .int x :: r) (σ, sz, k, c) = zk_run E (zk_VT E) M_X3_tell (C_X3_tell E) P PX K n 51 [l0, l1, l2, l3] (.int (x + y) :: r) (σ, sz, k, c)) ∧
  (∀ (n : Nat) (l0 l1 l2 l3 : Option Value) (a : Nat) (v : Value) (r : List Value) (σ : zk_S) (sz k c : Nat), zk_run E (zk_VT E) M_X3_tell (C_X3_tell E) P PX K (n + 1) 51 [l0, l1, l2, l3] (v :: .ref a :: r) (σ, sz, k, c) = zk_put (zk_view E σ a) [2] 3 0 v (zk_pfok E σ a 3 v ∧ zk_run E (zk_VT E) M_X3_tell (C_X3_tell E) P PX K n 54 [l0, l1, l2, l3] r (zk_pf E σ a 3 v, sz, k, c))) ∧
  (∀ (n : Nat) (l0 l1 l2 l3 : Option Value)   (σ : zk_S) (sz k c : Nat), zk_run E (zk_VT E) M_X3_tell (C_X3_tell E) P PX K (n + 1) 54 [l0, l1, l2, l3] [] (σ, sz, k, c) = (P none σ sz ∧ k ≤ 0 ∧ c ≤ 0)) ∧
  (∀ (n : Nat) (l0 l1 l2 l3 : Option Value) (r : List Value) (w : zk_W zk_S), zk_go E (zk_VT E) M_X3_tell (C_X3_tell E) P PX K n 0 [l0, l1, l2, l3] r w = zk_run E (zk_VT E) M_X3_tell (C_X3_tell E) P PX K (n + 1) 0 [l0, l1, l2, l3] r w) := ⟨by intros; rfl, by intros; rfl, by intros; rfl, by intros; rfl, by intros; rfl, by intros; rfl, by intros; rfl, by intros; rfl, by intros; rfl, by intros; rfl, by intros; rfl, by intros; rfl, by intros; rfl, by intros; rfl, by intros; rfl, by intros; rfl, by intros; rfl, by intros; rfl, by intros; rfl, by intros; rfl, by intros; rfl, by intros; rfl, by intros; rfl, by intros; rfl, by intros; rfl, by intros; rfl, by intros; rfl, by intros; rfl, by intros; rfl, by intros; rfl, by intros; rfl, by intros; rfl⟩
theorem vc_X3_tell (E : zk_E) : zk_VC E (zk_VT E) M_X3_tell (C_X3_tell E) 4 (sp_X3_tell E) := by
  intro av σ sz P PX h
  obtain ⟨J, N, Q, O, U⟩ := σ
  unfold sp_X3_tell at h
  split at h
  case h_2 => exact h.elim
  rename_i a0 q w m
  obtain ⟨rfl, h⟩ := h
  refine ⟨Nat.le_of_ble_eq_true rfl, fun G hG => ?_⟩
  change G 0 [some (.ref (zk_ad E 18)), some (.int q), some (.int w), some (.int m)] [] ((J, N, Q, O, U), sz, 0, 0)
  try dsimp only at h
  obtain ⟨⟨n, hn, hJ⟩, h1, h2⟩ := h
  by_cases c : m ≤ 0
  · (refine hG 900 _ _ _ _ ?_; simp only [r_X3_tell, c])
    exact h1 c
  · have h3 := h2 c
    unfold tlN at h3
    rw [hJ, n_cl (by omega)] at h3
    have c2 : ¬ (210 : Int32) ≤ nI n := (nI_ge (b := 210) hn (by decide) : ¬ nI 210 ≤ nI n)
    have hin : vp_in (nI n) 210 := n_in hn (by decide)
    have hcl : (nI n).toNatClampNeg = n := n_cl (by omega)
    (refine hG 900 _ _ _ _ ?_; simp only [r_X3_tell, c, hJ, c2, hin, hcl])
    exact h3
theorem ct_X3_tell {l : Launch} (hl : l.stackTraces = false) (E : zk_E) : zk_C l E (zk_VT E) yX3_tell cX3_tell 4 (none) rm_X3_tell (sp_X3_tell E) := by
  refine zk_meth (M := M_X3_tell) (C := C_X3_tell E) hl (by decide +kernel) rfl (fun _ _ => rfl) (zk_VT_ok E) MO_X3_tell TO_X3_tell THo_X3_tell ?_ (vc_X3_tell E)
  exact fun p e s m args below meth c X pc n mc ms sp2 h => absurd (zk_lka_mem h) List.not_mem_nil
theorem anum_le (r : Nat) : a_num r ≤ 40 := by unfold a_num; split <;> (try split) <;> omega
def anS : Nat → Nat
  | 0 => 0
  | n + 1 => anS n + a_num n
theorem a_fl_len2 (J N : Nat → Nat → Int32) : ∀ n, (a_fl J N n).length ≤ anS n
  | 0 => Nat.le_refl _
  | n + 1 => by
    have := a_fl_len2 J N n
    have := a_told_len J N n (a_num n)
    rw [a_fl, List.length_append, anS]
    omega
theorem anS_mono : ∀ {m n : Nat}, m ≤ n → anS m ≤ anS n := by
  intro m n h
  induction n with
  | zero => rw [Nat.le_zero.mp h]; exact Nat.le_refl _
  | succ n ih =>
    rcases Nat.lt_or_ge m (n + 1) with q | q
    · have := ih (by omega); rw [anS]; omega
    · rw [show m = n + 1 by omega]; exact Nat.le_refl _
theorem fl_lt {J N : Nat → Nat → Int32} {k i : Nat} (hk : k < 10) (hi : i < a_num k) : (a_fl J N k ++ a_told J N k i).length < 210 := by
  have h1 := a_fl_len2 J N k
  have h2 := a_told_len J N k i
  have h3 := anS_mono (show k + 1 ≤ 10 by omega)
  rw [anS, show anS 10 = 210 by decide] at h3
  rw [List.length_append]
  omega
theorem a_load_0 {J N : Nat → Nat → Int32} {k : Nat} (hk : k < 50) (h : ¬ MX J N k) : a_load J N k = 0 := by
  have hp : ∀ p f r s, g_ldp J N k p f r s = s := fun p f => by
    induction f with
    | zero => intro r s; rfl
    | succ f ih =>
      intro r s
      rw [g_ldp_eq]
      split
      · rfl
      · rw [ih, if_neg, Int32.add_zero]
        intro w
        by_cases z : lea J N r.toNatClampNeg = 100
        · omega
        · exact h (w ▸ (act_mx (lea_act z).1).1)
  unfold a_load
  generalize m_nr J = n
  induction n with
  | zero => rfl
  | succ n ih =>
    rw [g_ld]
    split
    · exact ih
    · rw [hp]; exact ih
def sp_X3_excessOfDoor (E : zk_E) : zk_Sp zk_S := fun av σ sz P PX => match av with
  | [.ref p, .ref w, .int i] => p = zk_ad E 1 ∧ w = zk_ad E 7 ∧ ∃ J N fl k, MI J N ∧ XR E sz σ J N fl ∧ CC J N σ.2.1 ∧ k < 40 ∧ i = nI k ∧ P (some (.int (a_amt J N 2 k))) σ sz
  | _ => False
theorem spe_X3_excessOfDoor (E : zk_E) (p : Nat) (w : Nat) (i : Int32) (σ : zk_S) (sz : Nat) (P : zk_P zk_S) (PX : zk_X zk_S) : sp_X3_excessOfDoor E [.ref p, .ref w, .int i] σ sz P PX = (p = zk_ad E 1 ∧ w = zk_ad E 7 ∧ ∃ J N fl k, MI J N ∧ XR E sz σ J N fl ∧ CC J N σ.2.1 ∧ k < 40 ∧ i = nI k ∧ P (some (.int (a_amt J N 2 k))) σ sz) := propext Iff.rfl
def C_X3_excessOfDoor (E : zk_E) : zk_Cl zk_S := zk_lka []
theorem r_X3_excessOfDoor (E : zk_E) (P : zk_P zk_S) (PX : zk_X zk_S) (K : Nat → zk_L → List Value → zk_W zk_S → Prop) : (∀ (n : Nat) (l1 l2 l3 : Option Value) (y0 : Value) (r : List Value) (σ : zk_S) (sz k c : Nat), zk_run E (zk_VT E) M_X3_excessOfDoor (C_X3_excessOfDoor E) P PX K (n + 1) 0 [some y0, l1, l2, l3] r (σ, sz, k, c) = (zk_isr y0 ∧ zk_run E (zk_VT E) M_X3_excessOfDoor (C_X3_excessOfDoor E) P PX K n 1 [some y0, l1, l2, l3] (y0 :: r) (σ, sz, k, c))) ∧
  (∀ (n : Nat) (l0 l1 l2 l3 : Option Value) (a : Nat) (r : List Value) (σ : zk_S) (sz k c : Nat), zk_run E (zk_VT E) M_X3_excessOfDoor (C_X3_excessOfDoor E) P PX K (n + 1) 1 [l0, l1, l2, l3] (.ref a :: r) (σ, sz, k, c) = zk_fld (zk_view E σ a) [4] 1 (fun v => zk_run E (zk_VT E) M_X3_excessOfDoor (C_X3_excessOfDoor E) P PX K n 4 [l0, l1, l2, l3] (v :: r) (σ, sz, k, c))) ∧
  (∀ (n : Nat) (l0 l1 l3 : Option Value) (y2 : Int32) (r : List Value) (σ : zk_S) (sz k c : Nat), zk_run E (zk_VT E) M_X3_excessOfDoor (C_X3_excessOfDoor E) P PX K (n + 1) 4 [l0, l1, some (.int y2), l3] r (σ, sz, k, c) = zk_run E (zk_VT E) M_X3_excessOfDoor (C_X3_excessOfDoor E) P PX K n 5 [l0, l1, some (.int y2), l3] (.int y2 :: r) (σ, sz, k, c)) ∧
  (∀ (n : Nat) (l0 l1 l2 l3 : Option Value) (a : Nat) (i : Int32) (r : List Value) (σ : zk_S) (sz k c : Nat), zk_run E (zk_VT E) M_X3_excessOfDoor (C_X3_excessOfDoor E) P PX K (n + 1) 5 [l0, l1, l2, l3] (.int i :: .ref a :: r) (σ, sz, k, c) = zk_qld (zk_view E σ a) i [zk_ar E 3, zk_ar E 4, zk_ar E 5, zk_ar E 6, zk_ar E 7] (fun x => (x = none → zk_run E (zk_VT E) M_X3_excessOfDoor (C_X3_excessOfDoor E) P PX K n 6 [l0, l1, l2, l3] (.null :: r) (σ, sz, k, c)) ∧ ∀ b, x = some b → zk_run E (zk_VT E) M_X3_excessOfDoor (C_X3_excessOfDoor E) P PX K n 6 [l0, l1, l2, l3] (.ref b :: r) (σ, sz, k, c))) ∧
  (∀ (n : Nat) (l0 l1 l2 l3 : Option Value) (x : Value) (r : List Value) (σ : zk_S) (sz k c : Nat), zk_run E (zk_VT E) M_X3_excessOfDoor (C_X3_excessOfDoor E) P PX K (n + 1) 6 [l0, l1, l2, l3] (x :: r) (σ, sz, k, c) = (zk_isr x ∧ zk_run E (zk_VT E) M_X3_excessOfDoor (C_X3_excessOfDoor E) P PX K n 7 [l0, l1, zk_kl l2, some (x)] r (σ, sz, k, c))) ∧
  (∀ (n : Nat) (l0 l1 l2 : Option Value) (y3 : Value) (r : List Value) (σ : zk_S) (sz k c : Nat), zk_run E (zk_VT E) M_X3_excessOfDoor (C_X3_excessOfDoor E) P PX K (n + 1) 7 [l0, l1, l2, some y3] r (σ, sz, k, c) = (zk_isr y3 ∧ zk_run E (zk_VT E) M_X3_excessOfDoor (C_X3_excessOfDoor E) P PX K n 8 [l0, l1, l2, some y3] (y3 :: r) (σ, sz, k, c))) ∧
  (∀ (n : Nat) (l0 l1 l2 l3 : Option Value) (v : Value) (r : List Value) (σ : zk_S) (sz k c : Nat), zk_run E (zk_VT E) M_X3_excessOfDoor (C_X3_excessOfDoor E) P PX K (n + 1) 8 [l0, l1, l2, l3] (v :: r) (σ, sz, k, c) = (zk_isr v ∧ (¬ v = .null → zk_run E (zk_VT E) M_X3_excessOfDoor (C_X3_excessOfDoor E) P PX K n 15 [l0, l1, l2, l3] r (σ, sz, k, c)) ∧ (¬ (¬ v = .null) → zk_run E (zk_VT E) M_X3_excessOfDoor (C_X3_excessOfDoor E) P PX K n 11 [l0, l1, l2, l3] r (σ, sz, k, c)))) ∧
  (∀ (n : Nat) (l0 l1 l2 l3 : Option Value)  (r : List Value) (σ : zk_S) (sz k c : Nat), zk_run E (zk_VT E) M_X3_excessOfDoor (C_X3_excessOfDoor E) P PX K (n + 1) 11 [l0, l1, l2, l3] r (σ, sz, k, c) = zk_run E (zk_VT E) M_X3_excessOfDoor (C_X3_excessOfDoor E) P PX K n 12 [l0, l1, l2, l3] (.int (0) :: r) (σ, sz, k, c)) ∧
  (∀ (n : Nat) (l0 l1 l2 l3 : Option Value)  (r : List Value) (σ : zk_S) (sz k c : Nat), zk_run E (zk_VT E) M_X3_excessOfDoor (C_X3_excessOfDoor E) P PX K (n + 1) 12 [l0, l1, l2, l3] r (σ, sz, k, c) = zk_run E (zk_VT E) M_X3_excessOfDoor (C_X3_excessOfDoor E) P PX K n 36 [l0, l1, l2, l3] r (σ, sz, k, c)) ∧
  (∀ (n : Nat) (l0 l2 l3 : Option Value) (y1 : Value) (r : List Value) (σ : zk_S) (sz k c : Nat), zk_run E (zk_VT E) M_X3_excessOfDoor (C_X3_excessOfDoor E) P PX K (n + 1) 15 [l0, some y1, l2, l3] r (σ, sz, k, c) = (zk_isr y1 ∧ zk_run E (zk_VT E) M_X3_excessOfDoor (C_X3_excessOfDoor E) P PX K n 16 [l0, some y1, l2, l3] (y1 :: r) (σ, sz, k, c))) ∧
  (∀ (n : Nat) (l0 l1 l2 l3 : Option Value) (a : Nat) (r : List Value) (σ : zk_S) (sz k c : Nat), zk_run E (zk_VT E) M_X3_excessOfDoor (C_X3_excessOfDoor E) P PX K (n + 1) 16 [l0, l1, l2, l3] (.ref a :: r) (σ, sz, k, c) = zk_fld (zk_view E σ a) [7] 2 (fun v => zk_run E (zk_VT E) M_X3_excessOfDoor (C_X3_excessOfDoor E) P PX K n 19 [l0, l1, l2, l3] (v :: r) (σ, sz, k, c))) ∧
  (∀ (n : Nat) (l0 l1 l3 : Option Value) (y2 : Int32) (r : List Value) (σ : zk_S) (sz k c : Nat), zk_run E (zk_VT E) M_X3_excessOfDoor (C_X3_excessOfDoor E) P PX K (n + 1) 19 [l0, l1, some (.int y2), l3] r (σ, sz, k, c) = zk_run E (zk_VT E) M_X3_excessOfDoor (C_X3_excessOfDoor E) P PX K n 20 [l0, l1, some (.int y2), l3] (.int y2 :: r) (σ, sz, k, c)) ∧
  (∀ (n : Nat) (l0 l1 l2 l3 : Option Value) (a : Nat) (i : Int32) (r : List Value) (σ : zk_S) (sz k c : Nat), zk_run E (zk_VT E) M_X3_excessOfDoor (C_X3_excessOfDoor E) P PX K (n + 1) 20 [l0, l1, l2, l3] (.int i :: .ref a :: r) (σ, sz, k, c) = zk_ild (zk_view E σ a) (zk_ar E 0) i (fun x => zk_run E (zk_VT E) M_X3_excessOfDoor (C_X3_excessOfDoor E) P PX K n 21 [l0, l1, l2, l3] (.int x :: r) (σ, sz, k, c))) ∧
  (∀ (n : Nat) (l1 l2 l3 : Option Value) (y0 : Value) (r : List Value) (σ : zk_S) (sz k c : Nat), zk_run E (zk_VT E) M_X3_excessOfDoor (C_X3_excessOfDoor E) P PX K (n + 1) 21 [some y0, l1, l2, l3] r (σ, sz, k, c) = (zk_isr y0 ∧ zk_run E (zk_VT E) M_X3_excessOfDoor (C_X3_excessOfDoor E) P PX K n 22 [some y0, l1, l2, l3] (y0 :: r) (σ, sz, k, c))) ∧
  (∀ (n : Nat) (l0 l1 l2 l3 : Option Value) (a : Nat) (r : List Value) (σ : zk_S) (sz k c : Nat), zk_run E (zk_VT E) M_X3_excessOfDoor (C_X3_excessOfDoor E) P PX K (n + 1) 22 [l0, l1, l2, l3] (.ref a :: r) (σ, sz, k, c) = zk_fld (zk_view E σ a) [4] 4 (fun v => zk_run E (zk_VT E) M_X3_excessOfDoor (C_X3_excessOfDoor E) P PX K n 25 [l0, l1, l2, l3] (v :: r) (σ, sz, k, c))) ∧
  (∀ (n : Nat) (l0 l1 l2 l3 : Option Value)  (r : List Value) (σ : zk_S) (sz k c : Nat), zk_run E (zk_VT E) M_X3_excessOfDoor (C_X3_excessOfDoor E) P PX K (n + 1) 25 [l0, l1, l2, l3] r (σ, sz, k, c) = zk_run E (zk_VT E) M_X3_excessOfDoor (C_X3_excessOfDoor E) P PX K n 26 [l0, l1, l2, l3] (.int (2) :: r) (σ, sz, k, c)) ∧
  (∀ (n : Nat) (l0 l1 l2 l3 : Option Value) (a : Nat) (i : Int32) (r : List Value) (σ : zk_S) (sz k c : Nat), zk_run E (zk_VT E) M_X3_excessOfDoor (C_X3_excessOfDoor E) P PX K (n + 1) 26 [l0, l1, l2, l3] (.int i :: .ref a :: r) (σ, sz, k, c) = zk_ild (zk_view E σ a) (zk_ar E 0) i (fun x => zk_run E (zk_VT E) M_X3_excessOfDoor (C_X3_excessOfDoor E) P PX K n 27 [l0, l1, l2, l3] (.int x :: r) (σ, sz, k, c))) ∧
  (∀ (n : Nat) (l0 l1 l2 : Option Value) (y3 : Value) (r : List Value) (σ : zk_S) (sz k c : Nat), zk_run E (zk_VT E) M_X3_excessOfDoor (C_X3_excessOfDoor E) P PX K (n + 1) 27 [l0, l1, l2, some y3] r (σ, sz, k, c) = (zk_isr y3 ∧ zk_run E (zk_VT E) M_X3_excessOfDoor (C_X3_excessOfDoor E) P PX K n 28 [l0, l1, l2, some y3] (y3 :: r) (σ, sz, k, c))) ∧
  (∀ (n : Nat) (l0 l1 l2 l3 : Option Value) (a : Nat) (r : List Value) (σ : zk_S) (sz k c : Nat), zk_run E (zk_VT E) M_X3_excessOfDoor (C_X3_excessOfDoor E) P PX K (n + 1) 28 [l0, l1, l2, l3] (.ref a :: r) (σ, sz, k, c) = zk_fld (zk_view E σ a) [1] 7 (fun v => zk_run E (zk_VT E) M_X3_excessOfDoor (C_X3_excessOfDoor E) P PX K n 31 [l0, l1, l2, l3] (v :: r) (σ, sz, k, c))) ∧
  (∀ (n : Nat) (l0 l1 l2 l3 : Option Value) (a : Nat) (r : List Value) (σ : zk_S) (sz k c : Nat), zk_run E (zk_VT E) M_X3_excessOfDoor (C_X3_excessOfDoor E) P PX K (n + 1) 31 [l0, l1, l2, l3] (.ref a :: r) (σ, sz, k, c) = zk_fld (zk_view E σ a) [3] 4 (fun v => zk_run E (zk_VT E) M_X3_excessOfDoor (C_X3_excessOfDoor E) P PX K n 34 [l0, l1, l2, l3] (v :: r) (σ, sz, k, c))) ∧
  (∀ (n : Nat) (l0 l1 l2 l3 : Option Value) (x y : Int32) (r : List Value) (σ : zk_S) (sz k c : Nat), zk_run E (zk_VT E) M_X3_excessOfDoor (C_X3_excessOfDoor E) P PX K (n + 1) 34 [l0, l1, l2, l3] (.int y :: .int x :: r) (σ, sz, k, c) = zk_run E (zk_VT E) M_X3_excessOfDoor (C_X3_excessOfDoor E) P PX K n 35 [l0, l1, l2, l3] (.int (x * y) :: r) (σ, sz, k, c)) ∧
  (∀ (n : Nat) (l0 l1 l2 l3 : Option Value) (x y : Int32) (r : List Value) (σ : zk_S) (sz k c : Nat), zk_run E (zk_VT E) M_X3_excessOfDoor (C_X3_excessOfDoor E) P PX K (n + 1) 35 [l0, l1, l2, l3] (.int y :: .int x :: r) (σ, sz, k, c) = zk_run E (zk_VT E) M_X3_excessOfDoor (C_X3_excessOfDoor E) P PX K n 36 [l0, l1, l2, l3] (.int (x - y) :: r) (σ, sz, k, c)) ∧
  (∀ (n : Nat) (l0 l1 l2 l3 : Option Value) (x : Int32)  (σ : zk_S) (sz k c : Nat), zk_run E (zk_VT E) M_X3_excessOfDoor (C_X3_excessOfDoor E) P PX K (n + 1) 36 [l0, l1, l2, l3] [.int x] (σ, sz, k, c) = (zk_nok (some (.int)) x ∧ P (some (.int x)) σ sz ∧ k ≤ 0 ∧ c ≤ 0)) ∧
  (∀ (n : Nat) (l0 l1 l2 l3 : Option Value) (r : List Value) (w : zk_W zk_S), zk_go E (zk_VT E) M_X3_excessOfDoor (C_X3_excessOfDoor E) P PX K n 0 [l0, l1, l2, l3] r w = zk_run E (zk_VT E) M_X3_excessOfDoor (C_X3_excessOfDoor E) P PX K (n + 1) 0 [l0, l1, l2, l3] r w) := ⟨by intros; rfl, by intros; rfl, by intros; rfl, by intros; rfl, by intros; rfl, by intros; rfl, by intros; rfl, by intros; rfl, by intros; rfl, by intros; rfl, by intros; rfl, by intros; rfl, by intros; rfl, by intros; rfl, by intros; rfl, by intros; rfl, by intros; rfl, by intros; rfl, by intros; rfl, by intros; rfl, by intros; rfl, by intros; rfl, by intros; rfl, by intros; rfl⟩
theorem vc_X3_excessOfDoor (E : zk_E) : zk_VC E (zk_VT E) M_X3_excessOfDoor (C_X3_excessOfDoor E) 4 (sp_X3_excessOfDoor E) := by
  intro av σ sz P PX h
  obtain ⟨J, N, Q, O, U⟩ := σ
  unfold sp_X3_excessOfDoor at h
  split at h
  case h_2 => exact h.elim
  rename_i p w i
  refine ⟨Nat.le_of_ble_eq_true rfl, fun G hG => ?_⟩
  change G 0 [some (.ref p), some (.ref w), some (.int i), none] [] ((J, N, Q, O, U), sz, 0, 0)
  try dsimp only at h
  obtain ⟨rfl, rfl, J1, N1, fl, k, hmi, hxr, hcc, hk, rfl, h⟩ := h
  have hin : vp_in (nI k) 40 := n_in hk (by decide)
  have hin5 : vp_in (nI k) 50 := n_in (by omega) (by decide)
  have hcl : (nI k).toNatClampNeg = k := n_cl (by omega)
  have h10 : N 10 k = a_load J1 N1 k := hcc.2.1 k (by omega)
  have h6 : N 6 2 = N1 46 2 := hxr.1.2.2.2.2 2 (by decide)
  have i2 : vp_in 2 10 := n_in (n := 2) (by decide) (by decide)
  have t2 : (2 : Int32).toNatClampNeg = 2 := rfl
  unfold a_amt at h
  rw [if_pos rfl] at h
  rcases hxr.2.2.1 k hk with ⟨a, p, hm, hq, hao, hpo, hOa, hOp⟩ | ⟨hm, hq⟩
  · have hq : Q 3 k = some a := hq
    have hOa : O a = some (xdr N1 Q fl k p) := hOa
    have hOp : O p = some (xdp N1 k) := hOp
    have ha1 := hao.1
    have hp1 := hpo.1
    rw [if_pos ⟨hm.1, hm.2⟩] at h
    have g7 : ∀ F : Value → Prop, zk_fld (O a) [1] 7 F = F (.ref p) := fun F => by rw [hOa]; simp [zk_fld_o, xdr, cX, zk_nth]
    have g4 : ∀ F : Value → Prop, zk_fld (O p) [3] 4 F = F (.int (N1 34 k)) := fun F => by rw [hOp]; simp [zk_fld_o, xdp, cP, zk_nth]
    (refine hG 900 _ _ _ _ ?_; simp only [r_X3_excessOfDoor, hin, hin5, hcl, hq, h10, h6, i2, t2, zk_vd ha1, zk_vd hp1, g7, g4])
    exact h
  · have hq : Q 3 k = none := hq
    rw [if_neg (show ¬ (k < m_nd J1 ∧ ¬ N1 30 k = -2) from hm)] at h
    (refine hG 900 _ _ _ _ ?_; simp only [r_X3_excessOfDoor, hin, hcl, hq])
    exact h
theorem ct_X3_excessOfDoor {l : Launch} (hl : l.stackTraces = false) (E : zk_E) : zk_C l E (zk_VT E) yX3_excessOfDoor cX3_excessOfDoor 4 (some (.int)) rm_X3_excessOfDoor (sp_X3_excessOfDoor E) := by
  refine zk_meth (M := M_X3_excessOfDoor) (C := C_X3_excessOfDoor E) hl (by decide +kernel) rfl (fun _ _ => rfl) (zk_VT_ok E) MO_X3_excessOfDoor TO_X3_excessOfDoor THo_X3_excessOfDoor ?_ (vc_X3_excessOfDoor E)
  exact fun p e s m args below meth c X pc n mc ms sp2 h => absurd (zk_lka_mem h) List.not_mem_nil
def sp_X3_excessOfRoom (E : zk_E) : zk_Sp zk_S := fun av σ sz P PX => match av with
  | [.ref p, .ref w, .int q, .int i] => p = zk_ad E 1 ∧ w = zk_ad E 7 ∧ ∃ J N fl r k, MI J N ∧ XR E sz σ J N fl ∧ CC J N σ.2.1 ∧ r < 10 ∧ ¬ r = 2 ∧ ¬ r = 8 ∧ q = nI r ∧ k < 20 ∧ i = nI k ∧ ∀ x, (x = a_amt J N r k ∨ (x ≤ 0 ∧ a_amt J N r k ≤ 0)) → P (some (.int x)) σ sz
  | _ => False
theorem spe_X3_excessOfRoom (E : zk_E) (p : Nat) (w : Nat) (q : Int32) (i : Int32) (σ : zk_S) (sz : Nat) (P : zk_P zk_S) (PX : zk_X zk_S) : sp_X3_excessOfRoom E [.ref p, .ref w, .int q, .int i] σ sz P PX = (p = zk_ad E 1 ∧ w = zk_ad E 7 ∧ ∃ J N fl r k, MI J N ∧ XR E sz σ J N fl ∧ CC J N σ.2.1 ∧ r < 10 ∧ ¬ r = 2 ∧ ¬ r = 8 ∧ q = nI r ∧ k < 20 ∧ i = nI k ∧ ∀ x, (x = a_amt J N r k ∨ (x ≤ 0 ∧ a_amt J N r k ≤ 0)) → P (some (.int x)) σ sz) := propext Iff.rfl
def C_X3_excessOfRoom (E : zk_E) : zk_Cl zk_S := zk_lka [(156, 2, 0, 0, zk_rv (zk_VT E) (fun ci => Nat.beq ci 4) (sp_X5_windowsWide E)), (185, 2, 0, 0, zk_rv (zk_VT E) (fun ci => Nat.beq ci 4) (sp_X5_countOpen E)), (227, 2, 0, 0, zk_rv (zk_VT E) (fun ci => Nat.beq ci 4) (sp_X5_unitsAboveDwellings E))]
theorem r_X3_excessOfRoom (E : zk_E) (P : zk_P zk_S) (PX : zk_X zk_S) (K : Nat → zk_L → List Value → zk_W zk_S → Prop) : (∀ (n : Nat) (l1 l2 l3 l4 l5 l6 : Option Value) (y0 : Value) (r : List Value) (σ : zk_S) (sz k c : Nat), zk_run E (zk_VT E) M_X3_excessOfRoom (C_X3_excessOfRoom E) P PX K (n + 1) 0 [some y0, l1, l2, l3, l4, l5, l6] r (σ, sz, k, c) = (zk_isr y0 ∧ zk_run E (zk_VT E) M_X3_excessOfRoom (C_X3_excessOfRoom E) P PX K n 1 [some y0, l1, l2, l3, l4, l5, l6] (y0 :: r) (σ, sz, k, c))) ∧
  (∀ (n : Nat) (l0 l1 l2 l3 l4 l5 l6 : Option Value) (a : Nat) (r : List Value) (σ : zk_S) (sz k c : Nat), zk_run E (zk_VT E) M_X3_excessOfRoom (C_X3_excessOfRoom E) P PX K (n + 1) 1 [l0, l1, l2, l3, l4, l5, l6] (.ref a :: r) (σ, sz, k, c) = zk_fld (zk_view E σ a) [4] 0 (fun v => zk_run E (zk_VT E) M_X3_excessOfRoom (C_X3_excessOfRoom E) P PX K n 4 [l0, l1, l2, l3, l4, l5, l6] (v :: r) (σ, sz, k, c))) ∧
  (∀ (n : Nat) (l0 l1 l2 l4 l5 l6 : Option Value) (y3 : Int32) (r : List Value) (σ : zk_S) (sz k c : Nat), zk_run E (zk_VT E) M_X3_excessOfRoom (C_X3_excessOfRoom E) P PX K (n + 1) 4 [l0, l1, l2, some (.int y3), l4, l5, l6] r (σ, sz, k, c) = zk_run E (zk_VT E) M_X3_excessOfRoom (C_X3_excessOfRoom E) P PX K n 5 [l0, l1, l2, some (.int y3), l4, l5, l6] (.int y3 :: r) (σ, sz, k, c)) ∧
  (∀ (n : Nat) (l0 l1 l2 l3 l4 l5 l6 : Option Value) (a : Nat) (i : Int32) (r : List Value) (σ : zk_S) (sz k c : Nat), zk_run E (zk_VT E) M_X3_excessOfRoom (C_X3_excessOfRoom E) P PX K (n + 1) 5 [l0, l1, l2, l3, l4, l5, l6] (.int i :: .ref a :: r) (σ, sz, k, c) = zk_qld (zk_view E σ a) i [zk_ar E 3, zk_ar E 4, zk_ar E 5, zk_ar E 6, zk_ar E 7] (fun x => (x = none → zk_run E (zk_VT E) M_X3_excessOfRoom (C_X3_excessOfRoom E) P PX K n 6 [l0, l1, l2, l3, l4, l5, l6] (.null :: r) (σ, sz, k, c)) ∧ ∀ b, x = some b → zk_run E (zk_VT E) M_X3_excessOfRoom (C_X3_excessOfRoom E) P PX K n 6 [l0, l1, l2, l3, l4, l5, l6] (.ref b :: r) (σ, sz, k, c))) ∧
  (∀ (n : Nat) (l0 l1 l2 l3 l4 l5 l6 : Option Value) (x : Value) (r : List Value) (σ : zk_S) (sz k c : Nat), zk_run E (zk_VT E) M_X3_excessOfRoom (C_X3_excessOfRoom E) P PX K (n + 1) 6 [l0, l1, l2, l3, l4, l5, l6] (x :: r) (σ, sz, k, c) = (zk_isr x ∧ zk_run E (zk_VT E) M_X3_excessOfRoom (C_X3_excessOfRoom E) P PX K n 8 [l0, l1, l2, zk_kl l3, some (x), l5, l6] r (σ, sz, k, c))) ∧
  (∀ (n : Nat) (l0 l1 l2 l3 l5 l6 : Option Value) (y4 : Value) (r : List Value) (σ : zk_S) (sz k c : Nat), zk_run E (zk_VT E) M_X3_excessOfRoom (C_X3_excessOfRoom E) P PX K (n + 1) 8 [l0, l1, l2, l3, some y4, l5, l6] r (σ, sz, k, c) = (zk_isr y4 ∧ zk_run E (zk_VT E) M_X3_excessOfRoom (C_X3_excessOfRoom E) P PX K n 10 [l0, l1, l2, l3, some y4, l5, l6] (y4 :: r) (σ, sz, k, c))) ∧
  (∀ (n : Nat) (l0 l1 l2 l3 l4 l5 l6 : Option Value) (v : Value) (r : List Value) (σ : zk_S) (sz k c : Nat), zk_run E (zk_VT E) M_X3_excessOfRoom (C_X3_excessOfRoom E) P PX K (n + 1) 10 [l0, l1, l2, l3, l4, l5, l6] (v :: r) (σ, sz, k, c) = (zk_isr v ∧ (¬ v = .null → zk_run E (zk_VT E) M_X3_excessOfRoom (C_X3_excessOfRoom E) P PX K n 15 [l0, l1, l2, l3, l4, l5, l6] r (σ, sz, k, c)) ∧ (¬ (¬ v = .null) → zk_run E (zk_VT E) M_X3_excessOfRoom (C_X3_excessOfRoom E) P PX K n 13 [l0, l1, l2, l3, l4, l5, l6] r (σ, sz, k, c)))) ∧
  (∀ (n : Nat) (l0 l1 l2 l3 l4 l5 l6 : Option Value)  (r : List Value) (σ : zk_S) (sz k c : Nat), zk_run E (zk_VT E) M_X3_excessOfRoom (C_X3_excessOfRoom E) P PX K (n + 1) 13 [l0, l1, l2, l3, l4, l5, l6] r (σ, sz, k, c) = zk_run E (zk_VT E) M_X3_excessOfRoom (C_X3_excessOfRoom E) P PX K n 14 [l0, l1, l2, l3, l4, l5, l6] (.int (0) :: r) (σ, sz, k, c)) ∧
  (∀ (n : Nat) (l0 l1 l2 l3 l4 l5 l6 : Option Value) (x : Int32)  (σ : zk_S) (sz k c : Nat), zk_run E (zk_VT E) M_X3_excessOfRoom (C_X3_excessOfRoom E) P PX K (n + 1) 14 [l0, l1, l2, l3, l4, l5, l6] [.int x] (σ, sz, k, c) = (zk_nok (some (.int)) x ∧ P (some (.int x)) σ sz ∧ k ≤ 0 ∧ c ≤ 0)) ∧
  (∀ (n : Nat) (l1 l2 l3 l4 l5 l6 : Option Value) (y0 : Value) (r : List Value) (σ : zk_S) (sz k c : Nat), zk_run E (zk_VT E) M_X3_excessOfRoom (C_X3_excessOfRoom E) P PX K (n + 1) 15 [some y0, l1, l2, l3, l4, l5, l6] r (σ, sz, k, c) = (zk_isr y0 ∧ zk_run E (zk_VT E) M_X3_excessOfRoom (C_X3_excessOfRoom E) P PX K n 16 [some y0, l1, l2, l3, l4, l5, l6] (y0 :: r) (σ, sz, k, c))) ∧
  (∀ (n : Nat) (l0 l1 l2 l3 l4 l5 l6 : Option Value) (a : Nat) (r : List Value) (σ : zk_S) (sz k c : Nat), zk_run E (zk_VT E) M_X3_excessOfRoom (C_X3_excessOfRoom E) P PX K (n + 1) 16 [l0, l1, l2, l3, l4, l5, l6] (.ref a :: r) (σ, sz, k, c) = zk_fld (zk_view E σ a) [4] 4 (fun v => zk_run E (zk_VT E) M_X3_excessOfRoom (C_X3_excessOfRoom E) P PX K n 19 [l0, l1, l2, l3, l4, l5, l6] (v :: r) (σ, sz, k, c))) ∧
  (∀ (n : Nat) (l0 l1 l3 l4 l5 l6 : Option Value) (y2 : Int32) (r : List Value) (σ : zk_S) (sz k c : Nat), zk_run E (zk_VT E) M_X3_excessOfRoom (C_X3_excessOfRoom E) P PX K (n + 1) 19 [l0, l1, some (.int y2), l3, l4, l5, l6] r (σ, sz, k, c) = zk_run E (zk_VT E) M_X3_excessOfRoom (C_X3_excessOfRoom E) P PX K n 20 [l0, l1, some (.int y2), l3, l4, l5, l6] (.int y2 :: r) (σ, sz, k, c)) ∧
  (∀ (n : Nat) (l0 l1 l2 l3 l4 l5 l6 : Option Value) (a : Nat) (i : Int32) (r : List Value) (σ : zk_S) (sz k c : Nat), zk_run E (zk_VT E) M_X3_excessOfRoom (C_X3_excessOfRoom E) P PX K (n + 1) 20 [l0, l1, l2, l3, l4, l5, l6] (.int i :: .ref a :: r) (σ, sz, k, c) = zk_ild (zk_view E σ a) (zk_ar E 0) i (fun x => zk_run E (zk_VT E) M_X3_excessOfRoom (C_X3_excessOfRoom E) P PX K n 21 [l0, l1, l2, l3, l4, l5, l6] (.int x :: r) (σ, sz, k, c))) ∧
  (∀ (n : Nat) (l0 l1 l2 l3 l4 l5 l6 : Option Value) (x : Int32) (r : List Value) (σ : zk_S) (sz k c : Nat), zk_run E (zk_VT E) M_X3_excessOfRoom (C_X3_excessOfRoom E) P PX K (n + 1) 21 [l0, l1, l2, l3, l4, l5, l6] (.int x :: r) (σ, sz, k, c) = zk_run E (zk_VT E) M_X3_excessOfRoom (C_X3_excessOfRoom E) P PX K n 23 [l0, l1, l2, l3, zk_kl l4, some (.int x), l6] r (σ, sz, k, c)) ∧
  (∀ (n : Nat) (l0 l1 l2 l3 l5 l6 : Option Value) (y4 : Value) (r : List Value) (σ : zk_S) (sz k c : Nat), zk_run E (zk_VT E) M_X3_excessOfRoom (C_X3_excessOfRoom E) P PX K (n + 1) 23 [l0, l1, l2, l3, some y4, l5, l6] r (σ, sz, k, c) = (zk_isr y4 ∧ zk_run E (zk_VT E) M_X3_excessOfRoom (C_X3_excessOfRoom E) P PX K n 25 [l0, l1, l2, l3, some y4, l5, l6] (y4 :: r) (σ, sz, k, c))) ∧
  (∀ (n : Nat) (l0 l1 l2 l3 l4 l5 l6 : Option Value) (a : Nat) (r : List Value) (σ : zk_S) (sz k c : Nat), zk_run E (zk_VT E) M_X3_excessOfRoom (C_X3_excessOfRoom E) P PX K (n + 1) 25 [l0, l1, l2, l3, l4, l5, l6] (.ref a :: r) (σ, sz, k, c) = zk_fld (zk_view E σ a) [5] 4 (fun v => zk_run E (zk_VT E) M_X3_excessOfRoom (C_X3_excessOfRoom E) P PX K n 28 [l0, l1, l2, l3, l4, l5, l6] (v :: r) (σ, sz, k, c))) ∧
  (∀ (n : Nat) (l0 l1 l2 l3 l5 l6 : Option Value) (y4 : Value) (r : List Value) (σ : zk_S) (sz k c : Nat), zk_run E (zk_VT E) M_X3_excessOfRoom (C_X3_excessOfRoom E) P PX K (n + 1) 28 [l0, l1, l2, l3, some y4, l5, l6] r (σ, sz, k, c) = (zk_isr y4 ∧ zk_run E (zk_VT E) M_X3_excessOfRoom (C_X3_excessOfRoom E) P PX K n 30 [l0, l1, l2, l3, some y4, l5, l6] (y4 :: r) (σ, sz, k, c))) ∧
  (∀ (n : Nat) (l0 l1 l2 l3 l4 l5 l6 : Option Value) (a : Nat) (r : List Value) (σ : zk_S) (sz k c : Nat), zk_run E (zk_VT E) M_X3_excessOfRoom (C_X3_excessOfRoom E) P PX K (n + 1) 30 [l0, l1, l2, l3, l4, l5, l6] (.ref a :: r) (σ, sz, k, c) = zk_fld (zk_view E σ a) [5] 5 (fun v => zk_run E (zk_VT E) M_X3_excessOfRoom (C_X3_excessOfRoom E) P PX K n 33 [l0, l1, l2, l3, l4, l5, l6] (v :: r) (σ, sz, k, c))) ∧
  (∀ (n : Nat) (l0 l1 l2 l3 l4 l5 l6 : Option Value) (x y : Int32) (r : List Value) (σ : zk_S) (sz k c : Nat), zk_run E (zk_VT E) M_X3_excessOfRoom (C_X3_excessOfRoom E) P PX K (n + 1) 33 [l0, l1, l2, l3, l4, l5, l6] (.int y :: .int x :: r) (σ, sz, k, c) = zk_run E (zk_VT E) M_X3_excessOfRoom (C_X3_excessOfRoom E) P PX K n 34 [l0, l1, l2, l3, l4, l5, l6] (.int (x * y) :: r) (σ, sz, k, c)) ∧
  (∀ (n : Nat) (l0 l1 l2 l3 l4 l5 l6 : Option Value) (x : Int32) (r : List Value) (σ : zk_S) (sz k c : Nat), zk_run E (zk_VT E) M_X3_excessOfRoom (C_X3_excessOfRoom E) P PX K (n + 1) 34 [l0, l1, l2, l3, l4, l5, l6] (.int x :: r) (σ, sz, k, c) = zk_run E (zk_VT E) M_X3_excessOfRoom (C_X3_excessOfRoom E) P PX K n 36 [l0, l1, l2, l3, l4, zk_kl l5, some (.int x)] r (σ, sz, k, c)) ∧
  (∀ (n : Nat) (l0 l1 l3 l4 l5 l6 : Option Value) (y2 : Int32) (r : List Value) (σ : zk_S) (sz k c : Nat), zk_run E (zk_VT E) M_X3_excessOfRoom (C_X3_excessOfRoom E) P PX K (n + 1) 36 [l0, l1, some (.int y2), l3, l4, l5, l6] r (σ, sz, k, c) = zk_run E (zk_VT E) M_X3_excessOfRoom (C_X3_excessOfRoom E) P PX K n 37 [l0, l1, some (.int y2), l3, l4, l5, l6] (.int y2 :: r) (σ, sz, k, c)) ∧
  (∀ (n : Nat) (l0 l1 l2 l3 l4 l5 l6 : Option Value) (x : Int32) (r : List Value) (σ : zk_S) (sz k c : Nat), zk_run E (zk_VT E) M_X3_excessOfRoom (C_X3_excessOfRoom E) P PX K (n + 1) 37 [l0, l1, l2, l3, l4, l5, l6] (.int x :: r) (σ, sz, k, c) = (match zk_tab (201) (0) (9) #[55, 78, 201, 88, 100, 128, 145, 168, 201, 178] x with
      | some off => (match decide (0 ≤ ((37 : Nat) : Int) + off) with
        | true => zk_run E (zk_VT E) M_X3_excessOfRoom (C_X3_excessOfRoom E) P PX K n (((37 : Nat) : Int) + off).toNat [l0, l1, l2, l3, l4, l5, l6] r (σ, sz, k, c)
        | false => False)
      | none => False)) ∧
  (∀ (n : Nat) (l0 l2 l3 l4 l5 l6 : Option Value) (y1 : Value) (r : List Value) (σ : zk_S) (sz k c : Nat), zk_run E (zk_VT E) M_X3_excessOfRoom (C_X3_excessOfRoom E) P PX K (n + 1) 92 [l0, some y1, l2, l3, l4, l5, l6] r (σ, sz, k, c) = (zk_isr y1 ∧ zk_run E (zk_VT E) M_X3_excessOfRoom (C_X3_excessOfRoom E) P PX K n 93 [l0, some y1, l2, l3, l4, l5, l6] (y1 :: r) (σ, sz, k, c))) ∧
  (∀ (n : Nat) (l0 l1 l2 l3 l4 l5 l6 : Option Value) (a : Nat) (r : List Value) (σ : zk_S) (sz k c : Nat), zk_run E (zk_VT E) M_X3_excessOfRoom (C_X3_excessOfRoom E) P PX K (n + 1) 93 [l0, l1, l2, l3, l4, l5, l6] (.ref a :: r) (σ, sz, k, c) = zk_fld (zk_view E σ a) [7] 6 (fun v => zk_run E (zk_VT E) M_X3_excessOfRoom (C_X3_excessOfRoom E) P PX K n 96 [l0, l1, l2, l3, l4, l5, l6] (v :: r) (σ, sz, k, c))) ∧
  (∀ (n : Nat) (l0 l1 l2 l4 l5 l6 : Option Value) (y3 : Int32) (r : List Value) (σ : zk_S) (sz k c : Nat), zk_run E (zk_VT E) M_X3_excessOfRoom (C_X3_excessOfRoom E) P PX K (n + 1) 96 [l0, l1, l2, some (.int y3), l4, l5, l6] r (σ, sz, k, c) = zk_run E (zk_VT E) M_X3_excessOfRoom (C_X3_excessOfRoom E) P PX K n 97 [l0, l1, l2, some (.int y3), l4, l5, l6] (.int y3 :: r) (σ, sz, k, c)) ∧
  (∀ (n : Nat) (l0 l1 l2 l3 l4 l5 l6 : Option Value) (a : Nat) (i : Int32) (r : List Value) (σ : zk_S) (sz k c : Nat), zk_run E (zk_VT E) M_X3_excessOfRoom (C_X3_excessOfRoom E) P PX K (n + 1) 97 [l0, l1, l2, l3, l4, l5, l6] (.int i :: .ref a :: r) (σ, sz, k, c) = zk_ild (zk_view E σ a) (zk_ar E 0) i (fun x => zk_run E (zk_VT E) M_X3_excessOfRoom (C_X3_excessOfRoom E) P PX K n 98 [l0, l1, l2, l3, l4, l5, l6] (.int x :: r) (σ, sz, k, c))) ∧
  (∀ (n : Nat) (l0 l1 l2 l3 l4 l5 l6 : Option Value)  (r : List Value) (σ : zk_S) (sz k c : Nat), zk_run E (zk_VT E) M_X3_excessOfRoom (C_X3_excessOfRoom E) P PX K (n + 1) 98 [l0, l1, l2, l3, l4, l5, l6] r (σ, sz, k, c) = zk_run E (zk_VT E) M_X3_excessOfRoom (C_X3_excessOfRoom E) P PX K n 99 [l0, l1, l2, l3, l4, l5, l6] (.int ((-1)) :: r) (σ, sz, k, c)) ∧
  (∀ (n : Nat) (l0 l1 l2 l3 l4 l5 l6 : Option Value) (x y : Int32) (r : List Value) (σ : zk_S) (sz k c : Nat), zk_run E (zk_VT E) M_X3_excessOfRoom (C_X3_excessOfRoom E) P PX K (n + 1) 99 [l0, l1, l2, l3, l4, l5, l6] (.int y :: .int x :: r) (σ, sz, k, c) = ((¬ x = y → zk_run E (zk_VT E) M_X3_excessOfRoom (C_X3_excessOfRoom E) P PX K n 113 [l0, l1, l2, l3, l4, l5, l6] r (σ, sz, k, c)) ∧ (¬ (¬ x = y) → zk_run E (zk_VT E) M_X3_excessOfRoom (C_X3_excessOfRoom E) P PX K n 102 [l0, l1, l2, l3, l4, l5, l6] r (σ, sz, k, c)))) ∧
  (∀ (n : Nat) (l0 l1 l2 l3 l5 l6 : Option Value) (y4 : Value) (r : List Value) (σ : zk_S) (sz k c : Nat), zk_run E (zk_VT E) M_X3_excessOfRoom (C_X3_excessOfRoom E) P PX K (n + 1) 102 [l0, l1, l2, l3, some y4, l5, l6] r (σ, sz, k, c) = (zk_isr y4 ∧ zk_run E (zk_VT E) M_X3_excessOfRoom (C_X3_excessOfRoom E) P PX K n 104 [l0, l1, l2, l3, some y4, l5, l6] (y4 :: r) (σ, sz, k, c))) ∧
  (∀ (n : Nat) (l0 l1 l2 l3 l4 l5 l6 : Option Value) (a : Nat) (r : List Value) (σ : zk_S) (sz k c : Nat), zk_run E (zk_VT E) M_X3_excessOfRoom (C_X3_excessOfRoom E) P PX K (n + 1) 104 [l0, l1, l2, l3, l4, l5, l6] (.ref a :: r) (σ, sz, k, c) = zk_fld (zk_view E σ a) [5] 7 (fun v => zk_run E (zk_VT E) M_X3_excessOfRoom (C_X3_excessOfRoom E) P PX K n 107 [l0, l1, l2, l3, l4, l5, l6] (v :: r) (σ, sz, k, c))) ∧
  (∀ (n : Nat) (l0 l1 l2 l3 l4 l6 : Option Value) (y5 : Int32) (r : List Value) (σ : zk_S) (sz k c : Nat), zk_run E (zk_VT E) M_X3_excessOfRoom (C_X3_excessOfRoom E) P PX K (n + 1) 107 [l0, l1, l2, l3, l4, some (.int y5), l6] r (σ, sz, k, c) = zk_run E (zk_VT E) M_X3_excessOfRoom (C_X3_excessOfRoom E) P PX K n 109 [l0, l1, l2, l3, l4, some (.int y5), l6] (.int y5 :: r) (σ, sz, k, c)) ∧
  (∀ (n : Nat) (l0 l1 l2 l3 l4 l5 l6 : Option Value) (x y : Int32) (r : List Value) (σ : zk_S) (sz k c : Nat), zk_run E (zk_VT E) M_X3_excessOfRoom (C_X3_excessOfRoom E) P PX K (n + 1) 109 [l0, l1, l2, l3, l4, l5, l6] (.int y :: .int x :: r) (σ, sz, k, c) = zk_run E (zk_VT E) M_X3_excessOfRoom (C_X3_excessOfRoom E) P PX K n 110 [l0, l1, l2, l3, l4, l5, l6] (.int (x - y) :: r) (σ, sz, k, c)) ∧
  (∀ (n : Nat) (l0 l1 l2 l3 l4 l5 l6 : Option Value)  (r : List Value) (σ : zk_S) (sz k c : Nat), zk_run E (zk_VT E) M_X3_excessOfRoom (C_X3_excessOfRoom E) P PX K (n + 1) 110 [l0, l1, l2, l3, l4, l5, l6] r (σ, sz, k, c) = zk_run E (zk_VT E) M_X3_excessOfRoom (C_X3_excessOfRoom E) P PX K n 114 [l0, l1, l2, l3, l4, l5, l6] r (σ, sz, k, c)) ∧
  (∀ (n : Nat) (l0 l1 l2 l3 l4 l5 l6 : Option Value)  (r : List Value) (σ : zk_S) (sz k c : Nat), zk_run E (zk_VT E) M_X3_excessOfRoom (C_X3_excessOfRoom E) P PX K (n + 1) 113 [l0, l1, l2, l3, l4, l5, l6] r (σ, sz, k, c) = zk_run E (zk_VT E) M_X3_excessOfRoom (C_X3_excessOfRoom E) P PX K n 114 [l0, l1, l2, l3, l4, l5, l6] (.int (0) :: r) (σ, sz, k, c)) ∧
  (∀ (n : Nat) (l0 l1 l2 l3 l4 l5 l6 : Option Value) (x : Int32)  (σ : zk_S) (sz k c : Nat), zk_run E (zk_VT E) M_X3_excessOfRoom (C_X3_excessOfRoom E) P PX K (n + 1) 114 [l0, l1, l2, l3, l4, l5, l6] [.int x] (σ, sz, k, c) = (zk_nok (some (.int)) x ∧ P (some (.int x)) σ sz ∧ k ≤ 0 ∧ c ≤ 0)) ∧
  (∀ (n : Nat) (l0 l2 l3 l4 l5 l6 : Option Value) (y1 : Value) (r : List Value) (σ : zk_S) (sz k c : Nat), zk_run E (zk_VT E) M_X3_excessOfRoom (C_X3_excessOfRoom E) P PX K (n + 1) 115 [l0, some y1, l2, l3, l4, l5, l6] r (σ, sz, k, c) = (zk_isr y1 ∧ zk_run E (zk_VT E) M_X3_excessOfRoom (C_X3_excessOfRoom E) P PX K n 116 [l0, some y1, l2, l3, l4, l5, l6] (y1 :: r) (σ, sz, k, c))) ∧
  (∀ (n : Nat) (l0 l1 l2 l3 l4 l5 l6 : Option Value) (a : Nat) (r : List Value) (σ : zk_S) (sz k c : Nat), zk_run E (zk_VT E) M_X3_excessOfRoom (C_X3_excessOfRoom E) P PX K (n + 1) 116 [l0, l1, l2, l3, l4, l5, l6] (.ref a :: r) (σ, sz, k, c) = zk_fld (zk_view E σ a) [7] 5 (fun v => zk_run E (zk_VT E) M_X3_excessOfRoom (C_X3_excessOfRoom E) P PX K n 119 [l0, l1, l2, l3, l4, l5, l6] (v :: r) (σ, sz, k, c))) ∧
  (∀ (n : Nat) (l0 l1 l2 l4 l5 l6 : Option Value) (y3 : Int32) (r : List Value) (σ : zk_S) (sz k c : Nat), zk_run E (zk_VT E) M_X3_excessOfRoom (C_X3_excessOfRoom E) P PX K (n + 1) 119 [l0, l1, l2, some (.int y3), l4, l5, l6] r (σ, sz, k, c) = zk_run E (zk_VT E) M_X3_excessOfRoom (C_X3_excessOfRoom E) P PX K n 120 [l0, l1, l2, some (.int y3), l4, l5, l6] (.int y3 :: r) (σ, sz, k, c)) ∧
  (∀ (n : Nat) (l0 l1 l2 l3 l4 l5 l6 : Option Value) (a : Nat) (i : Int32) (r : List Value) (σ : zk_S) (sz k c : Nat), zk_run E (zk_VT E) M_X3_excessOfRoom (C_X3_excessOfRoom E) P PX K (n + 1) 120 [l0, l1, l2, l3, l4, l5, l6] (.int i :: .ref a :: r) (σ, sz, k, c) = zk_ild (zk_view E σ a) (zk_ar E 0) i (fun x => zk_run E (zk_VT E) M_X3_excessOfRoom (C_X3_excessOfRoom E) P PX K n 121 [l0, l1, l2, l3, l4, l5, l6] (.int x :: r) (σ, sz, k, c))) ∧
  (∀ (n : Nat) (l0 l1 l2 l3 l4 l6 : Option Value) (y5 : Int32) (r : List Value) (σ : zk_S) (sz k c : Nat), zk_run E (zk_VT E) M_X3_excessOfRoom (C_X3_excessOfRoom E) P PX K (n + 1) 121 [l0, l1, l2, l3, l4, some (.int y5), l6] r (σ, sz, k, c) = zk_run E (zk_VT E) M_X3_excessOfRoom (C_X3_excessOfRoom E) P PX K n 123 [l0, l1, l2, l3, l4, some (.int y5), l6] (.int y5 :: r) (σ, sz, k, c)) := ⟨by intros; rfl, by intros; rfl, by intros; rfl, by intros; rfl, by intros; rfl, by intros; rfl, by intros; rfl, by intros; rfl, by intros; rfl, by intros; rfl, by intros; rfl, by intros; rfl, by intros; rfl, by intros; rfl, by intros; rfl, by intros; rfl, by intros; rfl, by intros; rfl, by intros; rfl, by intros; rfl, by intros; rfl, by intros; rfl, by intros; rfl, by intros; rfl, by intros; rfl, by intros; rfl, by intros; rfl, by intros; rfl, by intros; rfl, by intros; rfl, by intros; rfl, by intros; rfl, by intros; rfl, by intros; rfl, by intros; rfl, by intros; rfl, by intros; rfl, by intros; rfl, by intros; rfl, by intros; rfl⟩
theorem r_X3_excessOfRoom_1 (E : zk_E) (P : zk_P zk_S) (PX : zk_X zk_S) (K : Nat → zk_L → List Value → zk_W zk_S → Prop) : (∀ (n : Nat) (l0 l1 l2 l3 l4 l5 l6 : Option Value) (x y : Int32) (r : List Value) (σ : zk_S) (sz k c : Nat), zk_run E (zk_VT E) M_X3_excessOfRoom (C_X3_excessOfRoom E) P PX K (n + 1) 123 [l0, l1, l2, l3, l4, l5, l6] (.int y :: .int x :: r) (σ, sz, k, c) = zk_run E (zk_VT E) M_X3_excessOfRoom (C_X3_excessOfRoom E) P PX K n 124 [l0, l1, l2, l3, l4, l5, l6] (.int (x - y) :: r) (σ, sz, k, c)) ∧
  (∀ (n : Nat) (l0 l1 l2 l3 l4 l5 l6 : Option Value) (x : Int32)  (σ : zk_S) (sz k c : Nat), zk_run E (zk_VT E) M_X3_excessOfRoom (C_X3_excessOfRoom E) P PX K (n + 1) 124 [l0, l1, l2, l3, l4, l5, l6] [.int x] (σ, sz, k, c) = (zk_nok (some (.int)) x ∧ P (some (.int x)) σ sz ∧ k ≤ 0 ∧ c ≤ 0)) ∧
  (∀ (n : Nat) (l0 l1 l2 l3 l5 l6 : Option Value) (y4 : Value) (r : List Value) (σ : zk_S) (sz k c : Nat), zk_run E (zk_VT E) M_X3_excessOfRoom (C_X3_excessOfRoom E) P PX K (n + 1) 125 [l0, l1, l2, l3, some y4, l5, l6] r (σ, sz, k, c) = (zk_isr y4 ∧ zk_run E (zk_VT E) M_X3_excessOfRoom (C_X3_excessOfRoom E) P PX K n 127 [l0, l1, l2, l3, some y4, l5, l6] (y4 :: r) (σ, sz, k, c))) ∧
  (∀ (n : Nat) (l0 l1 l2 l3 l4 l5 l6 : Option Value) (a : Nat) (r : List Value) (σ : zk_S) (sz k c : Nat), zk_run E (zk_VT E) M_X3_excessOfRoom (C_X3_excessOfRoom E) P PX K (n + 1) 127 [l0, l1, l2, l3, l4, l5, l6] (.ref a :: r) (σ, sz, k, c) = zk_fld (zk_view E σ a) [5] 7 (fun v => zk_run E (zk_VT E) M_X3_excessOfRoom (C_X3_excessOfRoom E) P PX K n 130 [l0, l1, l2, l3, l4, l5, l6] (v :: r) (σ, sz, k, c))) ∧
  (∀ (n : Nat) (l0 l1 l2 l3 l4 l6 : Option Value) (y5 : Int32) (r : List Value) (σ : zk_S) (sz k c : Nat), zk_run E (zk_VT E) M_X3_excessOfRoom (C_X3_excessOfRoom E) P PX K (n + 1) 130 [l0, l1, l2, l3, l4, some (.int y5), l6] r (σ, sz, k, c) = zk_run E (zk_VT E) M_X3_excessOfRoom (C_X3_excessOfRoom E) P PX K n 132 [l0, l1, l2, l3, l4, some (.int y5), l6] (.int y5 :: r) (σ, sz, k, c)) ∧
  (∀ (n : Nat) (l0 l1 l2 l3 l4 l5 l6 : Option Value) (x y : Int32) (r : List Value) (σ : zk_S) (sz k c : Nat), zk_run E (zk_VT E) M_X3_excessOfRoom (C_X3_excessOfRoom E) P PX K (n + 1) 132 [l0, l1, l2, l3, l4, l5, l6] (.int y :: .int x :: r) (σ, sz, k, c) = zk_run E (zk_VT E) M_X3_excessOfRoom (C_X3_excessOfRoom E) P PX K n 133 [l0, l1, l2, l3, l4, l5, l6] (.int (x * y) :: r) (σ, sz, k, c)) ∧
  (∀ (n : Nat) (l0 l1 l2 l3 l4 l5 : Option Value) (y6 : Int32) (r : List Value) (σ : zk_S) (sz k c : Nat), zk_run E (zk_VT E) M_X3_excessOfRoom (C_X3_excessOfRoom E) P PX K (n + 1) 133 [l0, l1, l2, l3, l4, l5, some (.int y6)] r (σ, sz, k, c) = zk_run E (zk_VT E) M_X3_excessOfRoom (C_X3_excessOfRoom E) P PX K n 135 [l0, l1, l2, l3, l4, l5, some (.int y6)] (.int y6 :: r) (σ, sz, k, c)) ∧
  (∀ (n : Nat) (l0 l1 l2 l3 l4 l5 l6 : Option Value) (x y : Int32) (r : List Value) (σ : zk_S) (sz k c : Nat), zk_run E (zk_VT E) M_X3_excessOfRoom (C_X3_excessOfRoom E) P PX K (n + 1) 135 [l0, l1, l2, l3, l4, l5, l6] (.int y :: .int x :: r) (σ, sz, k, c) = zk_run E (zk_VT E) M_X3_excessOfRoom (C_X3_excessOfRoom E) P PX K n 136 [l0, l1, l2, l3, l4, l5, l6] (.int (x - y) :: r) (σ, sz, k, c)) ∧
  (∀ (n : Nat) (l0 l1 l2 l3 l4 l5 l6 : Option Value) (x : Int32)  (σ : zk_S) (sz k c : Nat), zk_run E (zk_VT E) M_X3_excessOfRoom (C_X3_excessOfRoom E) P PX K (n + 1) 136 [l0, l1, l2, l3, l4, l5, l6] [.int x] (σ, sz, k, c) = (zk_nok (some (.int)) x ∧ P (some (.int x)) σ sz ∧ k ≤ 0 ∧ c ≤ 0)) ∧
  (∀ (n : Nat) (l0 l1 l2 l3 l5 l6 : Option Value) (y4 : Value) (r : List Value) (σ : zk_S) (sz k c : Nat), zk_run E (zk_VT E) M_X3_excessOfRoom (C_X3_excessOfRoom E) P PX K (n + 1) 137 [l0, l1, l2, l3, some y4, l5, l6] r (σ, sz, k, c) = (zk_isr y4 ∧ zk_run E (zk_VT E) M_X3_excessOfRoom (C_X3_excessOfRoom E) P PX K n 139 [l0, l1, l2, l3, some y4, l5, l6] (y4 :: r) (σ, sz, k, c))) ∧
  (∀ (n : Nat) (l0 l1 l2 l3 l4 l5 l6 : Option Value) (a : Nat) (r : List Value) (σ : zk_S) (sz k c : Nat), zk_run E (zk_VT E) M_X3_excessOfRoom (C_X3_excessOfRoom E) P PX K (n + 1) 139 [l0, l1, l2, l3, l4, l5, l6] (.ref a :: r) (σ, sz, k, c) = zk_fld (zk_view E σ a) [5] 6 (fun v => zk_run E (zk_VT E) M_X3_excessOfRoom (C_X3_excessOfRoom E) P PX K n 142 [l0, l1, l2, l3, l4, l5, l6] (v :: r) (σ, sz, k, c))) ∧
  (∀ (n : Nat) (l0 l1 l2 l3 l4 l5 l6 : Option Value) (x : Int32) (r : List Value) (σ : zk_S) (sz k c : Nat), zk_run E (zk_VT E) M_X3_excessOfRoom (C_X3_excessOfRoom E) P PX K (n + 1) 142 [l0, l1, l2, l3, l4, l5, l6] (.int x :: r) (σ, sz, k, c) = ((¬ x = 0 → zk_run E (zk_VT E) M_X3_excessOfRoom (C_X3_excessOfRoom E) P PX K n 163 [l0, l1, l2, l3, l4, l5, l6] r (σ, sz, k, c)) ∧ (¬ (¬ x = 0) → zk_run E (zk_VT E) M_X3_excessOfRoom (C_X3_excessOfRoom E) P PX K n 145 [l0, l1, l2, l3, l4, l5, l6] r (σ, sz, k, c)))) ∧
  (∀ (n : Nat) (l0 l1 l2 l3 l4 l5 : Option Value) (y6 : Int32) (r : List Value) (σ : zk_S) (sz k c : Nat), zk_run E (zk_VT E) M_X3_excessOfRoom (C_X3_excessOfRoom E) P PX K (n + 1) 145 [l0, l1, l2, l3, l4, l5, some (.int y6)] r (σ, sz, k, c) = zk_run E (zk_VT E) M_X3_excessOfRoom (C_X3_excessOfRoom E) P PX K n 147 [l0, l1, l2, l3, l4, l5, some (.int y6)] (.int y6 :: r) (σ, sz, k, c)) ∧
  (∀ (n : Nat) (l0 l1 l2 l3 l4 l6 : Option Value) (y5 : Int32) (r : List Value) (σ : zk_S) (sz k c : Nat), zk_run E (zk_VT E) M_X3_excessOfRoom (C_X3_excessOfRoom E) P PX K (n + 1) 147 [l0, l1, l2, l3, l4, some (.int y5), l6] r (σ, sz, k, c) = zk_run E (zk_VT E) M_X3_excessOfRoom (C_X3_excessOfRoom E) P PX K n 149 [l0, l1, l2, l3, l4, some (.int y5), l6] (.int y5 :: r) (σ, sz, k, c)) ∧
  (∀ (n : Nat) (l0 l1 l2 l3 l4 l5 l6 : Option Value) (x y : Int32) (r : List Value) (σ : zk_S) (sz k c : Nat), zk_run E (zk_VT E) M_X3_excessOfRoom (C_X3_excessOfRoom E) P PX K (n + 1) 149 [l0, l1, l2, l3, l4, l5, l6] (.int y :: .int x :: r) (σ, sz, k, c) = zk_run E (zk_VT E) M_X3_excessOfRoom (C_X3_excessOfRoom E) P PX K n 150 [l0, l1, l2, l3, l4, l5, l6] (.int (x * y) :: r) (σ, sz, k, c)) ∧
  (∀ (n : Nat) (l0 l1 l2 l3 l4 l5 l6 : Option Value)  (r : List Value) (σ : zk_S) (sz k c : Nat), zk_run E (zk_VT E) M_X3_excessOfRoom (C_X3_excessOfRoom E) P PX K (n + 1) 150 [l0, l1, l2, l3, l4, l5, l6] r (σ, sz, k, c) = zk_run E (zk_VT E) M_X3_excessOfRoom (C_X3_excessOfRoom E) P PX K n 152 [l0, l1, l2, l3, l4, l5, l6] (.int (100) :: r) (σ, sz, k, c)) ∧
  (∀ (n : Nat) (l0 l1 l2 l3 l4 l5 l6 : Option Value) (x y : Int32) (r : List Value) (σ : zk_S) (sz k c : Nat), zk_run E (zk_VT E) M_X3_excessOfRoom (C_X3_excessOfRoom E) P PX K (n + 1) 152 [l0, l1, l2, l3, l4, l5, l6] (.int y :: .int x :: r) (σ, sz, k, c) = (¬ y = 0 ∧ zk_run E (zk_VT E) M_X3_excessOfRoom (C_X3_excessOfRoom E) P PX K n 153 [l0, l1, l2, l3, l4, l5, l6] (.int (x / y) :: r) (σ, sz, k, c))) ∧
  (∀ (n : Nat) (l1 l2 l3 l4 l5 l6 : Option Value) (y0 : Value) (r : List Value) (σ : zk_S) (sz k c : Nat), zk_run E (zk_VT E) M_X3_excessOfRoom (C_X3_excessOfRoom E) P PX K (n + 1) 153 [some y0, l1, l2, l3, l4, l5, l6] r (σ, sz, k, c) = (zk_isr y0 ∧ zk_run E (zk_VT E) M_X3_excessOfRoom (C_X3_excessOfRoom E) P PX K n 154 [some y0, l1, l2, l3, l4, l5, l6] (y0 :: r) (σ, sz, k, c))) ∧
  (∀ (n : Nat) (l0 l1 l2 l3 l5 l6 : Option Value) (y4 : Value) (r : List Value) (σ : zk_S) (sz k c : Nat), zk_run E (zk_VT E) M_X3_excessOfRoom (C_X3_excessOfRoom E) P PX K (n + 1) 154 [l0, l1, l2, l3, some y4, l5, l6] r (σ, sz, k, c) = (zk_isr y4 ∧ zk_run E (zk_VT E) M_X3_excessOfRoom (C_X3_excessOfRoom E) P PX K n 156 [l0, l1, l2, l3, some y4, l5, l6] (y4 :: r) (σ, sz, k, c))) ∧
  (∀ (n : Nat) (l0 l1 l2 l3 l4 l5 l6 : Option Value) (v0 : Value) (v1 : Value) (v2 : Value)  (σ : zk_S) (sz k c : Nat), zk_run E (zk_VT E) M_X3_excessOfRoom (C_X3_excessOfRoom E) P PX K (n + 1) 156 [l0, l1, l2, l3, l4, l5, l6] [v0, v1, v2] (σ, sz, k, c) = (k + 0 ≤ 0 ∧ c + 0 ≤ 0 ∧ (zk_rv (zk_VT E) (fun ci => Nat.beq ci 4) (sp_X5_windowsWide E)) [v1, v0] σ sz (fun v s2 z2 => zk_run E (zk_VT E) M_X3_excessOfRoom (C_X3_excessOfRoom E) P PX K n 159 [l0, l1, l2, l3, l4, l5, l6] (zk_psh v [v2]) (s2, z2, k + 0, c + 0)) (fun X s2 z2 => PX X s2 z2))) ∧
  (∀ (n : Nat) (l0 l1 l2 l3 l4 l5 l6 : Option Value) (x y : Int32) (r : List Value) (σ : zk_S) (sz k c : Nat), zk_run E (zk_VT E) M_X3_excessOfRoom (C_X3_excessOfRoom E) P PX K (n + 1) 159 [l0, l1, l2, l3, l4, l5, l6] (.int y :: .int x :: r) (σ, sz, k, c) = zk_run E (zk_VT E) M_X3_excessOfRoom (C_X3_excessOfRoom E) P PX K n 160 [l0, l1, l2, l3, l4, l5, l6] (.int (x - y) :: r) (σ, sz, k, c)) ∧
  (∀ (n : Nat) (l0 l1 l2 l3 l4 l5 l6 : Option Value)  (r : List Value) (σ : zk_S) (sz k c : Nat), zk_run E (zk_VT E) M_X3_excessOfRoom (C_X3_excessOfRoom E) P PX K (n + 1) 160 [l0, l1, l2, l3, l4, l5, l6] r (σ, sz, k, c) = zk_run E (zk_VT E) M_X3_excessOfRoom (C_X3_excessOfRoom E) P PX K n 164 [l0, l1, l2, l3, l4, l5, l6] r (σ, sz, k, c)) ∧
  (∀ (n : Nat) (l0 l1 l2 l3 l4 l5 l6 : Option Value)  (r : List Value) (σ : zk_S) (sz k c : Nat), zk_run E (zk_VT E) M_X3_excessOfRoom (C_X3_excessOfRoom E) P PX K (n + 1) 163 [l0, l1, l2, l3, l4, l5, l6] r (σ, sz, k, c) = zk_run E (zk_VT E) M_X3_excessOfRoom (C_X3_excessOfRoom E) P PX K n 164 [l0, l1, l2, l3, l4, l5, l6] (.int (0) :: r) (σ, sz, k, c)) ∧
  (∀ (n : Nat) (l0 l1 l2 l3 l4 l5 l6 : Option Value) (x : Int32)  (σ : zk_S) (sz k c : Nat), zk_run E (zk_VT E) M_X3_excessOfRoom (C_X3_excessOfRoom E) P PX K (n + 1) 164 [l0, l1, l2, l3, l4, l5, l6] [.int x] (σ, sz, k, c) = (zk_nok (some (.int)) x ∧ P (some (.int x)) σ sz ∧ k ≤ 0 ∧ c ≤ 0)) ∧
  (∀ (n : Nat) (l0 l1 l2 l3 l5 l6 : Option Value) (y4 : Value) (r : List Value) (σ : zk_S) (sz k c : Nat), zk_run E (zk_VT E) M_X3_excessOfRoom (C_X3_excessOfRoom E) P PX K (n + 1) 165 [l0, l1, l2, l3, some y4, l5, l6] r (σ, sz, k, c) = (zk_isr y4 ∧ zk_run E (zk_VT E) M_X3_excessOfRoom (C_X3_excessOfRoom E) P PX K n 167 [l0, l1, l2, l3, some y4, l5, l6] (y4 :: r) (σ, sz, k, c))) ∧
  (∀ (n : Nat) (l0 l1 l2 l3 l4 l5 l6 : Option Value) (a : Nat) (r : List Value) (σ : zk_S) (sz k c : Nat), zk_run E (zk_VT E) M_X3_excessOfRoom (C_X3_excessOfRoom E) P PX K (n + 1) 167 [l0, l1, l2, l3, l4, l5, l6] (.ref a :: r) (σ, sz, k, c) = zk_fld (zk_view E σ a) [5] 4 (fun v => zk_run E (zk_VT E) M_X3_excessOfRoom (C_X3_excessOfRoom E) P PX K n 170 [l0, l1, l2, l3, l4, l5, l6] (v :: r) (σ, sz, k, c))) ∧
  (∀ (n : Nat) (l0 l1 l2 l3 l5 l6 : Option Value) (y4 : Value) (r : List Value) (σ : zk_S) (sz k c : Nat), zk_run E (zk_VT E) M_X3_excessOfRoom (C_X3_excessOfRoom E) P PX K (n + 1) 170 [l0, l1, l2, l3, some y4, l5, l6] r (σ, sz, k, c) = (zk_isr y4 ∧ zk_run E (zk_VT E) M_X3_excessOfRoom (C_X3_excessOfRoom E) P PX K n 172 [l0, l1, l2, l3, some y4, l5, l6] (y4 :: r) (σ, sz, k, c))) ∧
  (∀ (n : Nat) (l0 l1 l2 l3 l4 l5 l6 : Option Value) (a : Nat) (r : List Value) (σ : zk_S) (sz k c : Nat), zk_run E (zk_VT E) M_X3_excessOfRoom (C_X3_excessOfRoom E) P PX K (n + 1) 172 [l0, l1, l2, l3, l4, l5, l6] (.ref a :: r) (σ, sz, k, c) = zk_fld (zk_view E σ a) [5] 5 (fun v => zk_run E (zk_VT E) M_X3_excessOfRoom (C_X3_excessOfRoom E) P PX K n 175 [l0, l1, l2, l3, l4, l5, l6] (v :: r) (σ, sz, k, c))) ∧
  (∀ (n : Nat) (l0 l1 l2 l3 l4 l5 l6 : Option Value) (x y : Int32)  (σ : zk_S) (sz k c : Nat), zk_run E (zk_VT E) M_X3_excessOfRoom (C_X3_excessOfRoom E) P PX K (n + 1) 175 [l0, l1, l2, l3, l4, l5, l6] (.int y :: .int x :: []) (σ, sz, k, c) = (([] : List Value).length ≤ 4 ∧ k ≤ 0 ∧ c ≤ 0 ∧ zk_run E (zk_VT E) M_X3_excessOfRoom (C_X3_excessOfRoom E) P PX K n 178 [l0, l1, l2, l3, l4, l5, l6] (.int (i_min x y) :: []) (σ, sz, k, c))) ∧
  (∀ (n : Nat) (l0 l1 l2 l3 l4 l6 : Option Value) (y5 : Int32) (r : List Value) (σ : zk_S) (sz k c : Nat), zk_run E (zk_VT E) M_X3_excessOfRoom (C_X3_excessOfRoom E) P PX K (n + 1) 178 [l0, l1, l2, l3, l4, some (.int y5), l6] r (σ, sz, k, c) = zk_run E (zk_VT E) M_X3_excessOfRoom (C_X3_excessOfRoom E) P PX K n 180 [l0, l1, l2, l3, l4, some (.int y5), l6] (.int y5 :: r) (σ, sz, k, c)) ∧
  (∀ (n : Nat) (l0 l1 l2 l3 l4 l5 l6 : Option Value) (x y : Int32) (r : List Value) (σ : zk_S) (sz k c : Nat), zk_run E (zk_VT E) M_X3_excessOfRoom (C_X3_excessOfRoom E) P PX K (n + 1) 180 [l0, l1, l2, l3, l4, l5, l6] (.int y :: .int x :: r) (σ, sz, k, c) = zk_run E (zk_VT E) M_X3_excessOfRoom (C_X3_excessOfRoom E) P PX K n 181 [l0, l1, l2, l3, l4, l5, l6] (.int (x - y) :: r) (σ, sz, k, c)) ∧
  (∀ (n : Nat) (l0 l1 l2 l3 l4 l5 l6 : Option Value) (x : Int32)  (σ : zk_S) (sz k c : Nat), zk_run E (zk_VT E) M_X3_excessOfRoom (C_X3_excessOfRoom E) P PX K (n + 1) 181 [l0, l1, l2, l3, l4, l5, l6] [.int x] (σ, sz, k, c) = (zk_nok (some (.int)) x ∧ P (some (.int x)) σ sz ∧ k ≤ 0 ∧ c ≤ 0)) ∧
  (∀ (n : Nat) (l1 l2 l3 l4 l5 l6 : Option Value) (y0 : Value) (r : List Value) (σ : zk_S) (sz k c : Nat), zk_run E (zk_VT E) M_X3_excessOfRoom (C_X3_excessOfRoom E) P PX K (n + 1) 182 [some y0, l1, l2, l3, l4, l5, l6] r (σ, sz, k, c) = (zk_isr y0 ∧ zk_run E (zk_VT E) M_X3_excessOfRoom (C_X3_excessOfRoom E) P PX K n 183 [some y0, l1, l2, l3, l4, l5, l6] (y0 :: r) (σ, sz, k, c))) ∧
  (∀ (n : Nat) (l0 l1 l2 l3 l5 l6 : Option Value) (y4 : Value) (r : List Value) (σ : zk_S) (sz k c : Nat), zk_run E (zk_VT E) M_X3_excessOfRoom (C_X3_excessOfRoom E) P PX K (n + 1) 183 [l0, l1, l2, l3, some y4, l5, l6] r (σ, sz, k, c) = (zk_isr y4 ∧ zk_run E (zk_VT E) M_X3_excessOfRoom (C_X3_excessOfRoom E) P PX K n 185 [l0, l1, l2, l3, some y4, l5, l6] (y4 :: r) (σ, sz, k, c))) ∧
  (∀ (n : Nat) (l0 l1 l2 l3 l4 l5 l6 : Option Value) (v0 : Value) (v1 : Value)  (σ : zk_S) (sz k c : Nat), zk_run E (zk_VT E) M_X3_excessOfRoom (C_X3_excessOfRoom E) P PX K (n + 1) 185 [l0, l1, l2, l3, l4, l5, l6] [v0, v1] (σ, sz, k, c) = (k + 0 ≤ 0 ∧ c + 0 ≤ 0 ∧ (zk_rv (zk_VT E) (fun ci => Nat.beq ci 4) (sp_X5_countOpen E)) [v1, v0] σ sz (fun v s2 z2 => zk_run E (zk_VT E) M_X3_excessOfRoom (C_X3_excessOfRoom E) P PX K n 188 [l0, l1, l2, l3, l4, l5, l6] (zk_psh v []) (s2, z2, k + 0, c + 0)) (fun X s2 z2 => PX X s2 z2))) ∧
  (∀ (n : Nat) (l0 l1 l2 l3 l4 l5 l6 : Option Value)  (r : List Value) (σ : zk_S) (sz k c : Nat), zk_run E (zk_VT E) M_X3_excessOfRoom (C_X3_excessOfRoom E) P PX K (n + 1) 188 [l0, l1, l2, l3, l4, l5, l6] r (σ, sz, k, c) = zk_run E (zk_VT E) M_X3_excessOfRoom (C_X3_excessOfRoom E) P PX K n 189 [l0, l1, l2, l3, l4, l5, l6] (.int (1) :: r) (σ, sz, k, c)) ∧
  (∀ (n : Nat) (l0 l1 l2 l3 l4 l5 l6 : Option Value) (x y : Int32) (r : List Value) (σ : zk_S) (sz k c : Nat), zk_run E (zk_VT E) M_X3_excessOfRoom (C_X3_excessOfRoom E) P PX K (n + 1) 189 [l0, l1, l2, l3, l4, l5, l6] (.int y :: .int x :: r) (σ, sz, k, c) = ((y < x → zk_run E (zk_VT E) M_X3_excessOfRoom (C_X3_excessOfRoom E) P PX K n 203 [l0, l1, l2, l3, l4, l5, l6] r (σ, sz, k, c)) ∧ (¬ (y < x) → zk_run E (zk_VT E) M_X3_excessOfRoom (C_X3_excessOfRoom E) P PX K n 192 [l0, l1, l2, l3, l4, l5, l6] r (σ, sz, k, c)))) ∧
  (∀ (n : Nat) (l0 l1 l2 l3 l5 l6 : Option Value) (y4 : Value) (r : List Value) (σ : zk_S) (sz k c : Nat), zk_run E (zk_VT E) M_X3_excessOfRoom (C_X3_excessOfRoom E) P PX K (n + 1) 192 [l0, l1, l2, l3, some y4, l5, l6] r (σ, sz, k, c) = (zk_isr y4 ∧ zk_run E (zk_VT E) M_X3_excessOfRoom (C_X3_excessOfRoom E) P PX K n 194 [l0, l1, l2, l3, some y4, l5, l6] (y4 :: r) (σ, sz, k, c))) ∧
  (∀ (n : Nat) (l0 l1 l2 l3 l4 l5 l6 : Option Value) (a : Nat) (r : List Value) (σ : zk_S) (sz k c : Nat), zk_run E (zk_VT E) M_X3_excessOfRoom (C_X3_excessOfRoom E) P PX K (n + 1) 194 [l0, l1, l2, l3, l4, l5, l6] (.ref a :: r) (σ, sz, k, c) = zk_fld (zk_view E σ a) [5] 7 (fun v => zk_run E (zk_VT E) M_X3_excessOfRoom (C_X3_excessOfRoom E) P PX K n 197 [l0, l1, l2, l3, l4, l5, l6] (v :: r) (σ, sz, k, c))) ∧
  (∀ (n : Nat) (l0 l1 l2 l3 l4 l6 : Option Value) (y5 : Int32) (r : List Value) (σ : zk_S) (sz k c : Nat), zk_run E (zk_VT E) M_X3_excessOfRoom (C_X3_excessOfRoom E) P PX K (n + 1) 197 [l0, l1, l2, l3, l4, some (.int y5), l6] r (σ, sz, k, c) = zk_run E (zk_VT E) M_X3_excessOfRoom (C_X3_excessOfRoom E) P PX K n 199 [l0, l1, l2, l3, l4, some (.int y5), l6] (.int y5 :: r) (σ, sz, k, c)) := ⟨by intros; rfl, by intros; rfl, by intros; rfl, by intros; rfl, by intros; rfl, by intros; rfl, by intros; rfl, by intros; rfl, by intros; rfl, by intros; rfl, by intros; rfl, by intros; rfl, by intros; rfl, by intros; rfl, by intros; rfl, by intros; rfl, by intros; rfl, by intros; rfl, by intros; rfl, by intros; rfl, by intros; rfl, by intros; rfl, by intros; rfl, by intros; rfl, by intros; rfl, by intros; rfl, by intros; rfl, by intros; rfl, by intros; rfl, by intros; rfl, by intros; rfl, by intros; rfl, by intros; rfl, by intros; rfl, by intros; rfl, by intros; rfl, by intros; rfl, by intros; rfl, by intros; rfl, by intros; rfl⟩
theorem r_X3_excessOfRoom_2 (E : zk_E) (P : zk_P zk_S) (PX : zk_X zk_S) (K : Nat → zk_L → List Value → zk_W zk_S → Prop) : (∀ (n : Nat) (l0 l1 l2 l3 l4 l5 l6 : Option Value) (x y : Int32) (r : List Value) (σ : zk_S) (sz k c : Nat), zk_run E (zk_VT E) M_X3_excessOfRoom (C_X3_excessOfRoom E) P PX K (n + 1) 199 [l0, l1, l2, l3, l4, l5, l6] (.int y :: .int x :: r) (σ, sz, k, c) = zk_run E (zk_VT E) M_X3_excessOfRoom (C_X3_excessOfRoom E) P PX K n 200 [l0, l1, l2, l3, l4, l5, l6] (.int (x - y) :: r) (σ, sz, k, c)) ∧
  (∀ (n : Nat) (l0 l1 l2 l3 l4 l5 l6 : Option Value)  (r : List Value) (σ : zk_S) (sz k c : Nat), zk_run E (zk_VT E) M_X3_excessOfRoom (C_X3_excessOfRoom E) P PX K (n + 1) 200 [l0, l1, l2, l3, l4, l5, l6] r (σ, sz, k, c) = zk_run E (zk_VT E) M_X3_excessOfRoom (C_X3_excessOfRoom E) P PX K n 204 [l0, l1, l2, l3, l4, l5, l6] r (σ, sz, k, c)) ∧
  (∀ (n : Nat) (l0 l1 l2 l3 l4 l5 l6 : Option Value)  (r : List Value) (σ : zk_S) (sz k c : Nat), zk_run E (zk_VT E) M_X3_excessOfRoom (C_X3_excessOfRoom E) P PX K (n + 1) 203 [l0, l1, l2, l3, l4, l5, l6] r (σ, sz, k, c) = zk_run E (zk_VT E) M_X3_excessOfRoom (C_X3_excessOfRoom E) P PX K n 204 [l0, l1, l2, l3, l4, l5, l6] (.int (0) :: r) (σ, sz, k, c)) ∧
  (∀ (n : Nat) (l0 l1 l2 l3 l4 l5 l6 : Option Value) (x : Int32)  (σ : zk_S) (sz k c : Nat), zk_run E (zk_VT E) M_X3_excessOfRoom (C_X3_excessOfRoom E) P PX K (n + 1) 204 [l0, l1, l2, l3, l4, l5, l6] [.int x] (σ, sz, k, c) = (zk_nok (some (.int)) x ∧ P (some (.int x)) σ sz ∧ k ≤ 0 ∧ c ≤ 0)) ∧
  (∀ (n : Nat) (l0 l2 l3 l4 l5 l6 : Option Value) (y1 : Value) (r : List Value) (σ : zk_S) (sz k c : Nat), zk_run E (zk_VT E) M_X3_excessOfRoom (C_X3_excessOfRoom E) P PX K (n + 1) 205 [l0, some y1, l2, l3, l4, l5, l6] r (σ, sz, k, c) = (zk_isr y1 ∧ zk_run E (zk_VT E) M_X3_excessOfRoom (C_X3_excessOfRoom E) P PX K n 206 [l0, some y1, l2, l3, l4, l5, l6] (y1 :: r) (σ, sz, k, c))) ∧
  (∀ (n : Nat) (l0 l1 l2 l3 l4 l5 l6 : Option Value) (a : Nat) (r : List Value) (σ : zk_S) (sz k c : Nat), zk_run E (zk_VT E) M_X3_excessOfRoom (C_X3_excessOfRoom E) P PX K (n + 1) 206 [l0, l1, l2, l3, l4, l5, l6] (.ref a :: r) (σ, sz, k, c) = zk_fld (zk_view E σ a) [7] 6 (fun v => zk_run E (zk_VT E) M_X3_excessOfRoom (C_X3_excessOfRoom E) P PX K n 209 [l0, l1, l2, l3, l4, l5, l6] (v :: r) (σ, sz, k, c))) ∧
  (∀ (n : Nat) (l0 l1 l2 l4 l5 l6 : Option Value) (y3 : Int32) (r : List Value) (σ : zk_S) (sz k c : Nat), zk_run E (zk_VT E) M_X3_excessOfRoom (C_X3_excessOfRoom E) P PX K (n + 1) 209 [l0, l1, l2, some (.int y3), l4, l5, l6] r (σ, sz, k, c) = zk_run E (zk_VT E) M_X3_excessOfRoom (C_X3_excessOfRoom E) P PX K n 210 [l0, l1, l2, some (.int y3), l4, l5, l6] (.int y3 :: r) (σ, sz, k, c)) ∧
  (∀ (n : Nat) (l0 l1 l2 l3 l4 l5 l6 : Option Value) (a : Nat) (i : Int32) (r : List Value) (σ : zk_S) (sz k c : Nat), zk_run E (zk_VT E) M_X3_excessOfRoom (C_X3_excessOfRoom E) P PX K (n + 1) 210 [l0, l1, l2, l3, l4, l5, l6] (.int i :: .ref a :: r) (σ, sz, k, c) = zk_ild (zk_view E σ a) (zk_ar E 0) i (fun x => zk_run E (zk_VT E) M_X3_excessOfRoom (C_X3_excessOfRoom E) P PX K n 211 [l0, l1, l2, l3, l4, l5, l6] (.int x :: r) (σ, sz, k, c))) ∧
  (∀ (n : Nat) (l0 l1 l2 l3 l4 l6 : Option Value) (y5 : Int32) (r : List Value) (σ : zk_S) (sz k c : Nat), zk_run E (zk_VT E) M_X3_excessOfRoom (C_X3_excessOfRoom E) P PX K (n + 1) 211 [l0, l1, l2, l3, l4, some (.int y5), l6] r (σ, sz, k, c) = zk_run E (zk_VT E) M_X3_excessOfRoom (C_X3_excessOfRoom E) P PX K n 213 [l0, l1, l2, l3, l4, some (.int y5), l6] (.int y5 :: r) (σ, sz, k, c)) ∧
  (∀ (n : Nat) (l0 l1 l2 l3 l4 l5 l6 : Option Value) (x y : Int32) (r : List Value) (σ : zk_S) (sz k c : Nat), zk_run E (zk_VT E) M_X3_excessOfRoom (C_X3_excessOfRoom E) P PX K (n + 1) 213 [l0, l1, l2, l3, l4, l5, l6] (.int y :: .int x :: r) (σ, sz, k, c) = zk_run E (zk_VT E) M_X3_excessOfRoom (C_X3_excessOfRoom E) P PX K n 214 [l0, l1, l2, l3, l4, l5, l6] (.int (x - y) :: r) (σ, sz, k, c)) ∧
  (∀ (n : Nat) (l0 l1 l2 l3 l4 l5 l6 : Option Value) (x : Int32)  (σ : zk_S) (sz k c : Nat), zk_run E (zk_VT E) M_X3_excessOfRoom (C_X3_excessOfRoom E) P PX K (n + 1) 214 [l0, l1, l2, l3, l4, l5, l6] [.int x] (σ, sz, k, c) = (zk_nok (some (.int)) x ∧ P (some (.int x)) σ sz ∧ k ≤ 0 ∧ c ≤ 0)) ∧
  (∀ (n : Nat) (l0 l1 l2 l3 l5 l6 : Option Value) (y4 : Value) (r : List Value) (σ : zk_S) (sz k c : Nat), zk_run E (zk_VT E) M_X3_excessOfRoom (C_X3_excessOfRoom E) P PX K (n + 1) 215 [l0, l1, l2, l3, some y4, l5, l6] r (σ, sz, k, c) = (zk_isr y4 ∧ zk_run E (zk_VT E) M_X3_excessOfRoom (C_X3_excessOfRoom E) P PX K n 217 [l0, l1, l2, l3, some y4, l5, l6] (y4 :: r) (σ, sz, k, c))) ∧
  (∀ (n : Nat) (l0 l1 l2 l3 l4 l5 l6 : Option Value) (a : Nat) (r : List Value) (σ : zk_S) (sz k c : Nat), zk_run E (zk_VT E) M_X3_excessOfRoom (C_X3_excessOfRoom E) P PX K (n + 1) 217 [l0, l1, l2, l3, l4, l5, l6] (.ref a :: r) (σ, sz, k, c) = zk_fld (zk_view E σ a) [5] 6 (fun v => zk_run E (zk_VT E) M_X3_excessOfRoom (C_X3_excessOfRoom E) P PX K n 220 [l0, l1, l2, l3, l4, l5, l6] (v :: r) (σ, sz, k, c))) ∧
  (∀ (n : Nat) (l0 l1 l2 l3 l4 l5 l6 : Option Value)  (r : List Value) (σ : zk_S) (sz k c : Nat), zk_run E (zk_VT E) M_X3_excessOfRoom (C_X3_excessOfRoom E) P PX K (n + 1) 220 [l0, l1, l2, l3, l4, l5, l6] r (σ, sz, k, c) = zk_run E (zk_VT E) M_X3_excessOfRoom (C_X3_excessOfRoom E) P PX K n 221 [l0, l1, l2, l3, l4, l5, l6] (.int (3) :: r) (σ, sz, k, c)) ∧
  (∀ (n : Nat) (l0 l1 l2 l3 l4 l5 l6 : Option Value) (x y : Int32) (r : List Value) (σ : zk_S) (sz k c : Nat), zk_run E (zk_VT E) M_X3_excessOfRoom (C_X3_excessOfRoom E) P PX K (n + 1) 221 [l0, l1, l2, l3, l4, l5, l6] (.int y :: .int x :: r) (σ, sz, k, c) = ((¬ x = y → zk_run E (zk_VT E) M_X3_excessOfRoom (C_X3_excessOfRoom E) P PX K n 236 [l0, l1, l2, l3, l4, l5, l6] r (σ, sz, k, c)) ∧ (¬ (¬ x = y) → zk_run E (zk_VT E) M_X3_excessOfRoom (C_X3_excessOfRoom E) P PX K n 224 [l0, l1, l2, l3, l4, l5, l6] r (σ, sz, k, c)))) ∧
  (∀ (n : Nat) (l1 l2 l3 l4 l5 l6 : Option Value) (y0 : Value) (r : List Value) (σ : zk_S) (sz k c : Nat), zk_run E (zk_VT E) M_X3_excessOfRoom (C_X3_excessOfRoom E) P PX K (n + 1) 224 [some y0, l1, l2, l3, l4, l5, l6] r (σ, sz, k, c) = (zk_isr y0 ∧ zk_run E (zk_VT E) M_X3_excessOfRoom (C_X3_excessOfRoom E) P PX K n 225 [some y0, l1, l2, l3, l4, l5, l6] (y0 :: r) (σ, sz, k, c))) ∧
  (∀ (n : Nat) (l0 l1 l2 l3 l5 l6 : Option Value) (y4 : Value) (r : List Value) (σ : zk_S) (sz k c : Nat), zk_run E (zk_VT E) M_X3_excessOfRoom (C_X3_excessOfRoom E) P PX K (n + 1) 225 [l0, l1, l2, l3, some y4, l5, l6] r (σ, sz, k, c) = (zk_isr y4 ∧ zk_run E (zk_VT E) M_X3_excessOfRoom (C_X3_excessOfRoom E) P PX K n 227 [l0, l1, l2, l3, some y4, l5, l6] (y4 :: r) (σ, sz, k, c))) ∧
  (∀ (n : Nat) (l0 l1 l2 l3 l4 l5 l6 : Option Value) (v0 : Value) (v1 : Value)  (σ : zk_S) (sz k c : Nat), zk_run E (zk_VT E) M_X3_excessOfRoom (C_X3_excessOfRoom E) P PX K (n + 1) 227 [l0, l1, l2, l3, l4, l5, l6] [v0, v1] (σ, sz, k, c) = (k + 0 ≤ 0 ∧ c + 0 ≤ 0 ∧ (zk_rv (zk_VT E) (fun ci => Nat.beq ci 4) (sp_X5_unitsAboveDwellings E)) [v1, v0] σ sz (fun v s2 z2 => zk_run E (zk_VT E) M_X3_excessOfRoom (C_X3_excessOfRoom E) P PX K n 230 [l0, l1, l2, l3, l4, l5, l6] (zk_psh v []) (s2, z2, k + 0, c + 0)) (fun X s2 z2 => PX X s2 z2))) ∧
  (∀ (n : Nat) (l0 l1 l2 l3 l4 l6 : Option Value) (y5 : Int32) (r : List Value) (σ : zk_S) (sz k c : Nat), zk_run E (zk_VT E) M_X3_excessOfRoom (C_X3_excessOfRoom E) P PX K (n + 1) 230 [l0, l1, l2, l3, l4, some (.int y5), l6] r (σ, sz, k, c) = zk_run E (zk_VT E) M_X3_excessOfRoom (C_X3_excessOfRoom E) P PX K n 232 [l0, l1, l2, l3, l4, some (.int y5), l6] (.int y5 :: r) (σ, sz, k, c)) ∧
  (∀ (n : Nat) (l0 l1 l2 l3 l4 l5 l6 : Option Value) (x y : Int32) (r : List Value) (σ : zk_S) (sz k c : Nat), zk_run E (zk_VT E) M_X3_excessOfRoom (C_X3_excessOfRoom E) P PX K (n + 1) 232 [l0, l1, l2, l3, l4, l5, l6] (.int y :: .int x :: r) (σ, sz, k, c) = zk_run E (zk_VT E) M_X3_excessOfRoom (C_X3_excessOfRoom E) P PX K n 233 [l0, l1, l2, l3, l4, l5, l6] (.int (x - y) :: r) (σ, sz, k, c)) ∧
  (∀ (n : Nat) (l0 l1 l2 l3 l4 l5 l6 : Option Value)  (r : List Value) (σ : zk_S) (sz k c : Nat), zk_run E (zk_VT E) M_X3_excessOfRoom (C_X3_excessOfRoom E) P PX K (n + 1) 233 [l0, l1, l2, l3, l4, l5, l6] r (σ, sz, k, c) = zk_run E (zk_VT E) M_X3_excessOfRoom (C_X3_excessOfRoom E) P PX K n 237 [l0, l1, l2, l3, l4, l5, l6] r (σ, sz, k, c)) ∧
  (∀ (n : Nat) (l0 l1 l2 l3 l4 l5 l6 : Option Value)  (r : List Value) (σ : zk_S) (sz k c : Nat), zk_run E (zk_VT E) M_X3_excessOfRoom (C_X3_excessOfRoom E) P PX K (n + 1) 236 [l0, l1, l2, l3, l4, l5, l6] r (σ, sz, k, c) = zk_run E (zk_VT E) M_X3_excessOfRoom (C_X3_excessOfRoom E) P PX K n 237 [l0, l1, l2, l3, l4, l5, l6] (.int (0) :: r) (σ, sz, k, c)) ∧
  (∀ (n : Nat) (l0 l1 l2 l3 l4 l5 l6 : Option Value) (x : Int32)  (σ : zk_S) (sz k c : Nat), zk_run E (zk_VT E) M_X3_excessOfRoom (C_X3_excessOfRoom E) P PX K (n + 1) 237 [l0, l1, l2, l3, l4, l5, l6] [.int x] (σ, sz, k, c) = (zk_nok (some (.int)) x ∧ P (some (.int x)) σ sz ∧ k ≤ 0 ∧ c ≤ 0)) ∧
  (∀ (n : Nat) (l0 l1 l2 l3 l4 l5 l6 : Option Value)  (r : List Value) (σ : zk_S) (sz k c : Nat), zk_run E (zk_VT E) M_X3_excessOfRoom (C_X3_excessOfRoom E) P PX K (n + 1) 238 [l0, l1, l2, l3, l4, l5, l6] r (σ, sz, k, c) = zk_run E (zk_VT E) M_X3_excessOfRoom (C_X3_excessOfRoom E) P PX K n 239 [l0, l1, l2, l3, l4, l5, l6] (.int (0) :: r) (σ, sz, k, c)) ∧
  (∀ (n : Nat) (l0 l1 l2 l3 l4 l5 l6 : Option Value) (x : Int32)  (σ : zk_S) (sz k c : Nat), zk_run E (zk_VT E) M_X3_excessOfRoom (C_X3_excessOfRoom E) P PX K (n + 1) 239 [l0, l1, l2, l3, l4, l5, l6] [.int x] (σ, sz, k, c) = (zk_nok (some (.int)) x ∧ P (some (.int x)) σ sz ∧ k ≤ 0 ∧ c ≤ 0)) ∧
  (∀ (n : Nat) (l0 l1 l2 l3 l4 l5 l6 : Option Value) (r : List Value) (w : zk_W zk_S), zk_go E (zk_VT E) M_X3_excessOfRoom (C_X3_excessOfRoom E) P PX K n 0 [l0, l1, l2, l3, l4, l5, l6] r w = zk_run E (zk_VT E) M_X3_excessOfRoom (C_X3_excessOfRoom E) P PX K (n + 1) 0 [l0, l1, l2, l3, l4, l5, l6] r w) := ⟨by intros; rfl, by intros; rfl, by intros; rfl, by intros; rfl, by intros; rfl, by intros; rfl, by intros; rfl, by intros; rfl, by intros; rfl, by intros; rfl, by intros; rfl, by intros; rfl, by intros; rfl, by intros; rfl, by intros; rfl, by intros; rfl, by intros; rfl, by intros; rfl, by intros; rfl, by intros; rfl, by intros; rfl, by intros; rfl, by intros; rfl, by intros; rfl, by intros; rfl, by intros; rfl⟩
theorem vc_X3_excessOfRoom (E : zk_E) : zk_VC E (zk_VT E) M_X3_excessOfRoom (C_X3_excessOfRoom E) 7 (sp_X3_excessOfRoom E) := by
  intro av σ sz P PX h
  obtain ⟨J, N, Q, O, U⟩ := σ
  unfold sp_X3_excessOfRoom at h
  split at h
  case h_2 => exact h.elim
  rename_i p w q i
  refine ⟨Nat.le_of_ble_eq_true rfl, fun G hG => ?_⟩
  change G 0 [some (.ref p), some (.ref w), some (.int q), some (.int i), none, none, none] [] ((J, N, Q, O, U), sz, 0, 0)
  try dsimp only at h
  obtain ⟨rfl, rfl, J1, N1, fl, r, k, hmi, hxr, hcc, hr, hr2, hr8, rfl, hk, rfl, h⟩ := h
  have hin : vp_in (nI k) 20 := n_in hk (by decide)
  have hcl : (nI k).toNatClampNeg = k := n_cl (by omega)
  obtain ⟨h11, h12, h13, h14⟩ := hcc.2.2 k hk
  have h13 : N 13 k = a_far J1 N1 k := h13
  have h14 : N 14 k = g_deep J1 N1 k := h14
  unfold a_amt at h
  rw [if_neg hr2, if_neg hr8] at h
  rcases hxr.2.1 k hk with ⟨b, hm, hq, hbo, hOb⟩ | ⟨hm, hq⟩
  · have hq : Q 2 k = some b := hq
    have hOb : O b = some (xrm N1 k) := hOb
    have hb1 := hbo.1
    have hB : isR (O b) := by rw [hOb]; exact isR_xrm N1 k
    rw [if_pos ⟨hm.1, hm.2⟩] at h
    have hgen := h
    have h := h _ (Or.inl rfl)
    have h6 : ∀ i, i < 10 → N 6 i = N1 46 i := hxr.1.2.2.2.2
    have inr : vp_in (nI r) 10 := n_in hr (by decide)
    have clr : (nI r).toNatClampNeg = r := n_cl (by omega)
    have h6r := h6 r hr
    have g4 : ∀ F : Value → Prop, zk_fld (O b) [5] 4 F = F (.int (N1 26 k)) := fun F => by rw [hOb]; simp [zk_fld_o, xrm, cR, zk_nth]
    have g5 : ∀ F : Value → Prop, zk_fld (O b) [5] 5 F = F (.int (N1 27 k)) := fun F => by rw [hOb]; simp [zk_fld_o, xrm, cR, zk_nth]
    have g6 : ∀ F : Value → Prop, zk_fld (O b) [5] 6 F = F (.int (N1 28 k)) := fun F => by rw [hOb]; simp [zk_fld_o, xrm, cR, zk_nth]
    have g7 : ∀ F : Value → Prop, zk_fld (O b) [5] 7 F = F (.int (N1 29 k)) := fun F => by rw [hOb]; simp [zk_fld_o, xrm, cR, zk_nth]
    have hk10 : r = 0 ∨ r = 1 ∨ r = 3 ∨ r = 4 ∨ r = 5 ∨ r = 6 ∨ r = 7 ∨ r = 9 := by omega
    rcases hk10 with rfl | rfl | rfl | rfl | rfl | rfl | rfl | rfl
    · have z : nI 0 = 0 := rfl
      have tb : zk_tab 201 0 9 #[55, 78, 201, 88, 100, 128, 145, 168, 201, 178] 0 = some 55 ∧ decide (0 ≤ ((37 : Nat) : Int) + 55) = true ∧ (((37 : Nat) : Int) + 55).toNat = 92 := ⟨by decide, by decide, rfl⟩
      rw [z] at inr clr
      rw [show a_by J1 N1 0 k = if g_deep J1 N1 k = -1 then N1 29 k - N1 46 0 else 0 from rfl] at h
      by_cases q : g_deep J1 N1 k = -1
      · rw [if_pos q] at h
        (refine hG 900 _ _ _ _ ?_; simp only [r_X3_excessOfRoom, r_X3_excessOfRoom_1, r_X3_excessOfRoom_2, z, tb, hin, hcl, hq, inr, clr, h6r, zk_vd hb1, g4, g5, h14, q, g7])
        exact h
      · rw [if_neg q] at h
        (refine hG 900 _ _ _ _ ?_; simp only [r_X3_excessOfRoom, r_X3_excessOfRoom_1, r_X3_excessOfRoom_2, z, tb, hin, hcl, hq, inr, clr, h6r, zk_vd hb1, g4, g5, h14, q, g7])
        exact h
    · have z : nI 1 = 1 := rfl
      have tb : zk_tab 201 0 9 #[55, 78, 201, 88, 100, 128, 145, 168, 201, 178] 1 = some 78 ∧ decide (0 ≤ ((37 : Nat) : Int) + 78) = true ∧ (((37 : Nat) : Int) + 78).toNat = 115 := ⟨by decide, by decide, rfl⟩
      rw [z] at inr clr
      by_cases q : lea J1 N1 k = 100
      · have h := hgen (a_far J1 N1 k - N1 46 1) (Or.inr ⟨by
          have e1 : a_far J1 N1 k = -1 := by unfold a_far; rw [if_pos q]
          obtain ⟨n, n1, n2, n3⟩ := hmi.2.2.2.2.2.1 1 (by decide)
          rw [e1, n3, i32_le, n_subI (by rw [nI_toInt (by omega)]; show -2147483648 ≤ (-1 : Int) - _; omega) (by rw [nI_toInt (by omega)]; show (-1 : Int) - _ < _; omega), nI_toInt (by omega)]
          show (-1 : Int) - _ ≤ 0
          omega, by
          rw [show a_by J1 N1 1 k = if lea J1 N1 k = 100 then 0 else a_far J1 N1 k - N1 46 1 from rfl, if_pos q]
          exact le00⟩)
        (refine hG 900 _ _ _ _ ?_; simp only [r_X3_excessOfRoom, r_X3_excessOfRoom_1, r_X3_excessOfRoom_2, z, tb, hin, hcl, hq, inr, clr, h6r, zk_vd hb1, g4, g5, h13])
        exact h
      · rw [show a_by J1 N1 1 k = if lea J1 N1 k = 100 then 0 else a_far J1 N1 k - N1 46 1 from rfl, if_neg q] at h
        (refine hG 900 _ _ _ _ ?_; simp only [r_X3_excessOfRoom, r_X3_excessOfRoom_1, r_X3_excessOfRoom_2, z, tb, hin, hcl, hq, inr, clr, h6r, zk_vd hb1, g4, g5, h13])
        exact h
    · have z : nI 3 = 3 := rfl
      have tb : zk_tab 201 0 9 #[55, 78, 201, 88, 100, 128, 145, 168, 201, 178] 3 = some 88 ∧ decide (0 ≤ ((37 : Nat) : Int) + 88) = true ∧ (((37 : Nat) : Int) + 88).toNat = 125 := ⟨by decide, by decide, rfl⟩
      rw [z] at inr clr
      rw [show a_by J1 N1 3 k = N1 46 3 * N1 29 k - N1 26 k * N1 27 k from rfl, Int32.mul_comm (N1 46 3)] at h
      (refine hG 900 _ _ _ _ ?_; simp only [r_X3_excessOfRoom, r_X3_excessOfRoom_1, r_X3_excessOfRoom_2, z, tb, hin, hcl, hq, inr, clr, h6r, zk_vd hb1, g4, g5, g7])
      exact h
    · have z : nI 4 = 4 := rfl
      have tb : zk_tab 201 0 9 #[55, 78, 201, 88, 100, 128, 145, 168, 201, 178] 4 = some 100 ∧ decide (0 ≤ ((37 : Nat) : Int) + 100) = true ∧ (((37 : Nat) : Int) + 100).toNat = 137 := ⟨by decide, by decide, rfl⟩
      rw [z] at inr clr
      rw [show a_by J1 N1 4 k = if N1 28 k = 0 then N1 26 k * N1 27 k * N1 46 4 / 100 - m_light J1 N1 (nI k) else 0 from rfl] at h
      have c100 : ¬ (100 : Int32) = 0 := by decide
      have hw := hxr.wide hmi hm hq
      have hwok := hxr.2.2.2.1.wok hmi.1
      by_cases q : N1 28 k = 0
      · rw [if_pos q] at h
        (refine hG 900 _ _ _ _ ?_; simp only [r_X3_excessOfRoom, r_X3_excessOfRoom_1, r_X3_excessOfRoom_2, z, tb, hin, hcl, hq, inr, clr, h6r, zk_vd hb1, g4, g5, g6, q, c100, spe_X5_windowsWide, hwok, hw])
        exact h
      · rw [if_neg q] at h
        (refine hG 900 _ _ _ _ ?_; simp only [r_X3_excessOfRoom, r_X3_excessOfRoom_1, r_X3_excessOfRoom_2, z, tb, hin, hcl, hq, inr, clr, h6r, zk_vd hb1, g4, g5, g6, q])
        exact h
    · have z : nI 5 = 5 := rfl
      have tb : zk_tab 201 0 9 #[55, 78, 201, 88, 100, 128, 145, 168, 201, 178] 5 = some 128 ∧ decide (0 ≤ ((37 : Nat) : Int) + 128) = true ∧ (((37 : Nat) : Int) + 128).toNat = 165 := ⟨by decide, by decide, rfl⟩
      rw [z] at inr clr
      rw [show a_by J1 N1 5 k = i_min (N1 26 k) (N1 27 k) - N1 46 5 from rfl] at h
      (refine hG 900 _ _ _ _ ?_; simp only [r_X3_excessOfRoom, r_X3_excessOfRoom_1, r_X3_excessOfRoom_2, z, tb, hin, hcl, hq, inr, clr, h6r, zk_vd hb1, g4, g5, g7])
      exact h
    · have z : nI 6 = 6 := rfl
      have tb : zk_tab 201 0 9 #[55, 78, 201, 88, 100, 128, 145, 168, 201, 178] 6 = some 145 ∧ decide (0 ≤ ((37 : Nat) : Int) + 145) = true ∧ (((37 : Nat) : Int) + 145).toNat = 182 := ⟨by decide, by decide, rfl⟩
      rw [z] at inr clr
      rw [show a_by J1 N1 6 k = if a_ex J1 N1 (nI k) < 2 then N1 29 k - N1 46 6 else 0 from rfl] at h
      have hx := hxr.xok
      have ho := hxr.opn50 hmi hm hq
      have hle : a_ex J1 N1 (nI k) ≤ 100 := Nat.le_trans (g_ex_le _ _ _ _) (m_act_len J1 N1)
      by_cases q : a_ex J1 N1 (nI k) < 2
      · rw [if_pos q] at h
        have c2 : ¬ (1 : Int32) < nI (a_ex J1 N1 (nI k)) := (nI_nlt (a := 1) (by omega) (by decide) : ¬ nI 1 < nI (a_ex J1 N1 (nI k)))
        (refine hG 900 _ _ _ _ ?_; simp only [r_X3_excessOfRoom, r_X3_excessOfRoom_1, r_X3_excessOfRoom_2, z, tb, hin, hcl, hq, inr, clr, h6r, zk_vd hb1, g4, g5, g7, spe_X5_countOpen, hx, ho, c2])
        exact h
      · rw [if_neg q] at h
        have c2 : (1 : Int32) < nI (a_ex J1 N1 (nI k)) := (nI_lt (a := 1) (by omega) (by omega) : nI 1 < nI (a_ex J1 N1 (nI k)))
        (refine hG 900 _ _ _ _ ?_; simp only [r_X3_excessOfRoom, r_X3_excessOfRoom_1, r_X3_excessOfRoom_2, z, tb, hin, hcl, hq, inr, clr, h6r, zk_vd hb1, g4, g5, g7, spe_X5_countOpen, hx, ho, c2])
        exact h
    · have z : nI 7 = 7 := rfl
      have tb : zk_tab 201 0 9 #[55, 78, 201, 88, 100, 128, 145, 168, 201, 178] 7 = some 168 ∧ decide (0 ≤ ((37 : Nat) : Int) + 168) = true ∧ (((37 : Nat) : Int) + 168).toNat = 205 := ⟨by decide, by decide, rfl⟩
      rw [z] at inr clr
      rw [show a_by J1 N1 7 k = g_deep J1 N1 k - N1 46 7 from rfl] at h
      (refine hG 900 _ _ _ _ ?_; simp only [r_X3_excessOfRoom, r_X3_excessOfRoom_1, r_X3_excessOfRoom_2, z, tb, hin, hcl, hq, inr, clr, h6r, zk_vd hb1, g4, g5, h14])
      exact h
    · have z : nI 9 = 9 := rfl
      have tb : zk_tab 201 0 9 #[55, 78, 201, 88, 100, 128, 145, 168, 201, 178] 9 = some 178 ∧ decide (0 ≤ ((37 : Nat) : Int) + 178) = true ∧ (((37 : Nat) : Int) + 178).toNat = 215 := ⟨by decide, by decide, rfl⟩
      rw [z] at inr clr
      rw [show a_by J1 N1 9 k = if N1 28 k = 3 then a_wet J1 N1 k - N1 46 9 else 0 from rfl] at h
      have hr4 := hxr.2.1.rok
      have hw := hxr.wet hmi hm hq
      by_cases q : N1 28 k = 3
      · rw [if_pos q] at h
        (refine hG 900 _ _ _ _ ?_; simp only [r_X3_excessOfRoom, r_X3_excessOfRoom_1, r_X3_excessOfRoom_2, z, tb, hin, hcl, hq, inr, clr, h6r, zk_vd hb1, g4, g5, g6, q, spe_X5_unitsAboveDwellings, hr4, hb1, hB, hw])
        exact h
      · rw [if_neg q] at h
        (refine hG 900 _ _ _ _ ?_; simp only [r_X3_excessOfRoom, r_X3_excessOfRoom_1, r_X3_excessOfRoom_2, z, tb, hin, hcl, hq, inr, clr, h6r, zk_vd hb1, g4, g5, g6, q])
        exact h
  · have hq : Q 2 k = none := hq
    rw [if_neg (show ¬ (k < m_nr J1 ∧ ¬ N1 23 k = -2) from hm)] at h
    have h := h _ (Or.inl rfl)
    (refine hG 900 _ _ _ _ ?_; simp only [r_X3_excessOfRoom, r_X3_excessOfRoom_1, r_X3_excessOfRoom_2, hin, hcl, hq])
    exact h
theorem ct_X3_excessOfRoom {l : Launch} (hl : l.stackTraces = false) (E : zk_E) : zk_C l E (zk_VT E) yX3_excessOfRoom cX3_excessOfRoom 7 (some (.int)) rm_X3_excessOfRoom (sp_X3_excessOfRoom E) := by
  refine zk_meth (M := M_X3_excessOfRoom) (C := C_X3_excessOfRoom E) hl (by decide +kernel) rfl (fun _ _ => rfl) (zk_VT_ok E) MO_X3_excessOfRoom TO_X3_excessOfRoom THo_X3_excessOfRoom ?_ (vc_X3_excessOfRoom E)
  exact fun p e s m args below meth c X pc n mc ms sp2 h => by
    have h2 := zk_lka_mem h
    simp only [List.mem_cons, List.not_mem_nil, or_false, Prod.mk.injEq] at h2
    rcases h2 with ⟨rfl, rfl, rfl, rfl, rfl⟩ | ⟨rfl, rfl, rfl, rfl, rfl⟩ | ⟨rfl, rfl, rfl, rfl, rfl⟩
    · exact zk_coV (idx := 86) X (ct_X5_windowsWide hl E) (List.forall_mem_cons.mpr ⟨zk_wi 197 (by decide +kernel) rfl, List.forall_mem_cons.mpr ⟨zk_wi 198 (by decide +kernel) rfl, List.forall_mem_cons.mpr ⟨zk_wi 199 (by decide +kernel) rfl, List.forall_mem_cons.mpr ⟨zk_wi 3 (by decide +kernel) rfl, List.forall_mem_cons.mpr ⟨zk_wi 200 (by decide +kernel) rfl, fun _ h => absurd h List.not_mem_nil⟩⟩⟩⟩⟩) (fun ci h => by
      have h := Nat.eq_of_beq_eq_true h
      subst h
      exact ⟨_, _, rfl⟩) (by decide +kernel) ⟨by decide, by decide, by decide +kernel⟩ ⟨by decide, by decide⟩
    · exact zk_coV (idx := 96) X (ct_X5_countOpen hl E) (List.forall_mem_cons.mpr ⟨zk_wi 204 (by decide +kernel) rfl, List.forall_mem_cons.mpr ⟨zk_wi 205 (by decide +kernel) rfl, List.forall_mem_cons.mpr ⟨zk_wi 206 (by decide +kernel) rfl, List.forall_mem_cons.mpr ⟨zk_wi 3 (by decide +kernel) rfl, List.forall_mem_cons.mpr ⟨zk_wi 207 (by decide +kernel) rfl, fun _ h => absurd h List.not_mem_nil⟩⟩⟩⟩⟩) (fun ci h => by
      have h := Nat.eq_of_beq_eq_true h
      subst h
      exact ⟨_, _, rfl⟩) (by decide +kernel) ⟨by decide, by decide, by decide +kernel⟩ ⟨by decide, by decide⟩
    · exact zk_coV (idx := 99) X (ct_X5_unitsAboveDwellings hl E) (List.forall_mem_cons.mpr ⟨zk_wi 215 (by decide +kernel) rfl, List.forall_mem_cons.mpr ⟨zk_wi 216 (by decide +kernel) rfl, List.forall_mem_cons.mpr ⟨zk_wi 217 (by decide +kernel) rfl, List.forall_mem_cons.mpr ⟨zk_wi 3 (by decide +kernel) rfl, List.forall_mem_cons.mpr ⟨zk_wi 218 (by decide +kernel) rfl, fun _ h => absurd h List.not_mem_nil⟩⟩⟩⟩⟩) (fun ci h => by
      have h := Nat.eq_of_beq_eq_true h
      subst h
      exact ⟨_, _, rfl⟩) (by decide +kernel) ⟨by decide, by decide, by decide +kernel⟩ ⟨by decide, by decide⟩


