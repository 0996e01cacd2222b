/-! the reference: depthOf, solve -/
theorem g_bsl_at {J N : Nat → Nat → Int32} {v : Nat → Nat} {r : Int32} {x y : Nat} (L : List Nat) : g_bsl J N v r x y L = (INF, 100) ∨ ((g_bsl J N v r x y L).2 ∈ L ∧ m_from J N (g_bsl J N v r x y L).2 = r ∧ v (g_bsl J N v r x y L).2 < INF ∧ (g_bsl J N v r x y L).1 = dN (g_x N (g_bsl J N v r x y L).2) (g_y N (g_bsl J N v r x y L).2) x y + v (g_bsl J N v r x y L).2) := by
  suffices h : ∀ (L : List Nat) (p : Nat × Nat), L.foldl (g_bs J N v r x y) p = p ∨ ((L.foldl (g_bs J N v r x y) p).2 ∈ L ∧ m_from J N (L.foldl (g_bs J N v r x y) p).2 = r ∧ v (L.foldl (g_bs J N v r x y) p).2 < INF ∧ (L.foldl (g_bs J N v r x y) p).1 = dN (g_x N (L.foldl (g_bs J N v r x y) p).2) (g_y N (L.foldl (g_bs J N v r x y) p).2) x y + v (L.foldl (g_bs J N v r x y) p).2) from h L (INF, 100)
  intro L
  induction L with
  | nil => intro p; exact Or.inl rfl
  | cons e L ih =>
    intro p
    rw [List.foldl_cons]
    rcases ih (g_bs J N v r x y p e) with h | h
    · rw [h]
      unfold g_bs
      split
      · next q => exact Or.inr ⟨List.mem_cons_self, q.1, q.2.1, rfl⟩
      · exact Or.inl rfl
    · exact Or.inr ⟨List.mem_cons_of_mem _ h.1, h.2⟩
theorem g_bsl_congr {J N : Nat → Nat → Int32} {v v2 : Nat → Nat} {r : Int32} {x y : Nat} {L : List Nat} (h : ∀ e ∈ L, v e = v2 e) : g_bsl J N v r x y L = g_bsl J N v2 r x y L := by
  unfold g_bsl
  generalize (INF, 100) = p
  induction L generalizing p with
  | nil => rfl
  | cons e L ih =>
    rw [List.foldl_cons, List.foldl_cons, ih (fun e he => h e (List.mem_cons_of_mem _ he))]
    unfold g_bs
    rw [h e List.mem_cons_self]
/-- the best way out from the middle of a room, and its first exit -/
def BB (J N : Nat → Nat → Int32) (j : Nat) : Nat × Nat := g_best J N (LL J N) (nI j) (g_mx N j) (g_my N j)
def lea (J N : Nat → Nat → Int32) (j : Nat) : Nat := (BB J N j).2
theorem lea_at {J N : Nat → Nat → Int32} (j : Nat) : BB J N j = (INF, 100) ∨ (lea J N j ∈ m_act J N ∧ m_from J N (lea J N j) = nI j ∧ LL J N (lea J N j) < INF ∧ (BB J N j).1 = dN (g_x N (lea J N j)) (g_y N (lea J N j)) (g_mx N j) (g_my N j) + LL J N (lea J N j)) := g_bsl_at _
theorem lea_le (J N : Nat → Nat → Int32) (j : Nat) : lea J N j ≤ 100 := by
  rcases lea_at (J := J) (N := N) j with h | h
  · rw [lea, h]; exact Nat.le_refl _
  · exact Nat.le_of_lt (m_act_mem.mp h.1).1
theorem lea_act {J N : Nat → Nat → Int32} {j : Nat} (h : lea J N j ≠ 100) : lea J N j ∈ m_act J N ∧ m_from J N (lea J N j) = nI j ∧ LL J N (lea J N j) < INF ∧ (BB J N j).1 = dN (g_x N (lea J N j)) (g_y N (lea J N j)) (g_mx N j) (g_my N j) + LL J N (lea J N j) := by
  rcases lea_at (J := J) (N := N) j with q | q
  · exact absurd (by rw [lea, q]) h
  · exact q
theorem ES.mx {J J2 N N2 : Nat → Nat → Int32} (h : ES J J2 N N2) : g_mx N2 = g_mx N := by funext j; unfold g_mx; rw [h.n (by decide), h.n (by decide)]
theorem ES.my {J J2 N N2 : Nat → Nat → Int32} (h : ES J J2 N N2) : g_my N2 = g_my N := by funext j; unfold g_my; rw [h.n (by decide), h.n (by decide)]
theorem ES.best {J J2 N N2 : Nat → Nat → Int32} (h : ES J J2 N N2) : g_best J2 N2 = g_best J N := by
  funext v r x y
  unfold g_best g_bsl g_bs
  simp only [h.from, h.gx, h.gy, h.act]
theorem ES.bb {J J2 N N2 : Nat → Nat → Int32} (h : ES J J2 N N2) : BB J2 N2 = BB J N := by
  funext j; unfold BB; rw [h.best, h.ll, h.mx, h.my]
theorem ES.lea {J J2 N N2 : Nat → Nat → Int32} (h : ES J J2 N N2) : lea J2 N2 = lea J N := by
  funext j; show (BB J2 N2 j).2 = (BB J N j).2; rw [h.bb]
theorem ES.intof {J J2 N N2 : Nat → Nat → Int32} (h : ES J J2 N N2) : m_into N2 = m_into N := by funext e; exact h.into e
/-- how many exits till one is out; -1 if one never is -/
def g_dep (J N : Nat → Nat → Int32) : Nat → Int32 → Nat → Int32
  | 0, _, _ => -1
  | f + 1, r, m => if r = -1 then nI m else if lea J N r.toNatClampNeg = 100 then -1 else g_dep J N f (m_into N (lea J N r.toNatClampNeg)) (m + 1)
theorem ES.dep {J J2 N N2 : Nat → Nat → Int32} (h : ES J J2 N N2) : ∀ f r m, g_dep J2 N2 f r m = g_dep J N f r m
  | 0, _, _ => rfl
  | f + 1, r, m => by unfold g_dep; rw [h.lea, h.intof, h.dep f]
def g_deep (J N : Nat → Nat → Int32) (j : Nat) : Int32 := g_dep J N 21 (nI j) 0
theorem ES.deep {J J2 N N2 : Nat → Nat → Int32} (h : ES J J2 N N2) : g_deep J2 N2 = g_deep J N := by funext j; exact h.dep _ _ _
/-- the leavings are told -/
def LW (J N : Nat → Nat → Int32) : Prop := ∀ q, q < m_nr J → N 48 q = g_lv (lea J N q)
def sp_X11_depthOf (E : zk_E) : zk_Sp zk_S := fun av σ sz P PX => match av with
  | [.ref a, .int r] => a = zk_ad E 22 ∧ MI σ.1 σ.2.1 ∧ LW σ.1 σ.2.1 ∧ (∃ j, j < m_nr σ.1 ∧ r = nI j) ∧ P (some (.int (g_deep σ.1 σ.2.1 r.toNatClampNeg))) σ sz
  | _ => False
theorem spe_X11_depthOf (E : zk_E) (a : Nat) (r : Int32) (σ : zk_S) (sz : Nat) (P : zk_P zk_S) (PX : zk_X zk_S) : sp_X11_depthOf E [.ref a, .int r] σ sz P PX = (a = zk_ad E 22 ∧ MI σ.1 σ.2.1 ∧ LW σ.1 σ.2.1 ∧ (∃ j, j < m_nr σ.1 ∧ r = nI j) ∧ P (some (.int (g_deep σ.1 σ.2.1 r.toNatClampNeg))) σ sz) := propext Iff.rfl
def C_X11_depthOf (E : zk_E) : zk_Cl zk_S := zk_lka [(36, 2, 0, 0, zk_rv (zk_VT E) (fun ci => Nat.beq ci 10) (sp_X11_into E))]
theorem r_X11_depthOf (E : zk_E) (P : zk_P zk_S) (PX : zk_X zk_S) (K : Nat → zk_L → List Value → zk_W zk_S → Prop) : (∀ (n : Nat) (l0 l2 l3 : Option Value) (y1 : Int32) (r : List Value) (σ : zk_S) (sz k c : Nat), zk_run E (zk_VT E) M_X11_depthOf (C_X11_depthOf E) P PX K (n + 1) 0 [l0, some (.int y1), l2, l3] r (σ, sz, k, c) = zk_run E (zk_VT E) M_X11_depthOf (C_X11_depthOf E) P PX K n 1 [l0, some (.int y1), l2, l3] (.int y1 :: r) (σ, sz, k, c)) ∧
  (∀ (n : Nat) (l0 l1 l2 l3 : Option Value) (x : Int32) (r : List Value) (σ : zk_S) (sz k c : Nat), zk_run E (zk_VT E) M_X11_depthOf (C_X11_depthOf E) P PX K (n + 1) 1 [l0, l1, l2, l3] (.int x :: r) (σ, sz, k, c) = zk_run E (zk_VT E) M_X11_depthOf (C_X11_depthOf E) P PX K n 2 [l0, zk_kl l1, some (.int x), l3] r (σ, sz, k, c)) ∧
  (∀ (n : Nat) (l0 l1 l2 l3 : Option Value)  (r : List Value) (σ : zk_S) (sz k c : Nat), zk_run E (zk_VT E) M_X11_depthOf (C_X11_depthOf E) P PX K (n + 1) 2 [l0, l1, l2, l3] r (σ, sz, k, c) = zk_run E (zk_VT E) M_X11_depthOf (C_X11_depthOf E) P PX K n 3 [l0, l1, l2, l3] (.int (0) :: r) (σ, sz, k, c)) ∧
  (∀ (n : Nat) (l0 l1 l2 l3 : Option Value) (x : Int32) (r : List Value) (σ : zk_S) (sz k c : Nat), zk_run E (zk_VT E) M_X11_depthOf (C_X11_depthOf E) P PX K (n + 1) 3 [l0, l1, l2, l3] (.int x :: r) (σ, sz, k, c) = zk_run E (zk_VT E) M_X11_depthOf (C_X11_depthOf E) P PX K n 4 [l0, l1, zk_kl l2, some (.int x)] r (σ, sz, k, c)) ∧
  (∀ (n : Nat) (l0 l1 l2 l3 : Option Value)  (r : List Value) (σ : zk_S) (sz k c : Nat), zk_run E (zk_VT E) M_X11_depthOf (C_X11_depthOf E) P PX K (n + 1) 4 [l0, l1, l2, l3] r (σ, sz, k, c) = K 4 [l0, l1, l2, l3] r (σ, sz, k, c)) ∧
  (∀ (n : Nat) (l0 l1 l2 l3 : Option Value)  (r : List Value) (σ : zk_S) (sz k c : Nat), zk_run E (zk_VT E) M_X11_depthOf (C_X11_depthOf E) P PX K (n + 1) 5 [l0, l1, l2, l3] r (σ, sz, k, c) = zk_run E (zk_VT E) M_X11_depthOf (C_X11_depthOf E) P PX K n 7 [l0, l1, l2, l3] (.int (20) :: r) (σ, sz, k, c)) ∧
  (∀ (n : Nat) (l0 l1 l2 l3 : Option Value) (x y : Int32) (r : List Value) (σ : zk_S) (sz k c : Nat), zk_run E (zk_VT E) M_X11_depthOf (C_X11_depthOf E) P PX K (n + 1) 7 [l0, l1, l2, l3] (.int y :: .int x :: r) (σ, sz, k, c) = ((y < x → zk_run E (zk_VT E) M_X11_depthOf (C_X11_depthOf E) P PX K n 46 [l0, l1, l2, l3] r (σ, sz, k, c)) ∧ (¬ (y < x) → zk_run E (zk_VT E) M_X11_depthOf (C_X11_depthOf E) P PX K n 10 [l0, l1, l2, l3] r (σ, sz, k, c)))) ∧
  (∀ (n : Nat) (l0 l1 l3 : Option Value) (y2 : Int32) (r : List Value) (σ : zk_S) (sz k c : Nat), zk_run E (zk_VT E) M_X11_depthOf (C_X11_depthOf E) P PX K (n + 1) 10 [l0, l1, some (.int y2), l3] r (σ, sz, k, c) = zk_run E (zk_VT E) M_X11_depthOf (C_X11_depthOf E) P PX K n 11 [l0, l1, some (.int y2), l3] (.int y2 :: r) (σ, sz, k, c)) ∧
  (∀ (n : Nat) (l0 l1 l2 l3 : Option Value)  (r : List Value) (σ : zk_S) (sz k c : Nat), zk_run E (zk_VT E) M_X11_depthOf (C_X11_depthOf E) P PX K (n + 1) 11 [l0, l1, l2, l3] r (σ, sz, k, c) = zk_run E (zk_VT E) M_X11_depthOf (C_X11_depthOf E) P PX K n 12 [l0, l1, l2, l3] (.int ((-1)) :: r) (σ, sz, k, c)) ∧
  (∀ (n : Nat) (l0 l1 l2 l3 : Option Value) (x y : Int32) (r : List Value) (σ : zk_S) (sz k c : Nat), zk_run E (zk_VT E) M_X11_depthOf (C_X11_depthOf E) P PX K (n + 1) 12 [l0, l1, l2, l3] (.int y :: .int x :: r) (σ, sz, k, c) = ((¬ x = y → zk_run E (zk_VT E) M_X11_depthOf (C_X11_depthOf E) P PX K n 17 [l0, l1, l2, l3] r (σ, sz, k, c)) ∧ (¬ (¬ x = y) → zk_run E (zk_VT E) M_X11_depthOf (C_X11_depthOf E) P PX K n 15 [l0, l1, l2, l3] r (σ, sz, k, c)))) ∧
  (∀ (n : Nat) (l0 l1 l2 : Option Value) (y3 : Int32) (r : List Value) (σ : zk_S) (sz k c : Nat), zk_run E (zk_VT E) M_X11_depthOf (C_X11_depthOf E) P PX K (n + 1) 15 [l0, l1, l2, some (.int y3)] r (σ, sz, k, c) = zk_run E (zk_VT E) M_X11_depthOf (C_X11_depthOf E) P PX K n 16 [l0, l1, l2, some (.int y3)] (.int y3 :: r) (σ, sz, k, c)) ∧
  (∀ (n : Nat) (l0 l1 l2 l3 : Option Value) (x : Int32)  (σ : zk_S) (sz k c : Nat), zk_run E (zk_VT E) M_X11_depthOf (C_X11_depthOf E) P PX K (n + 1) 16 [l0, l1, l2, l3] [.int x] (σ, sz, k, c) = (zk_nok (some (.int)) x ∧ P (some (.int x)) σ sz ∧ k ≤ 0 ∧ c ≤ 0)) ∧
  (∀ (n : Nat) (l1 l2 l3 : Option Value) (y0 : Value) (r : List Value) (σ : zk_S) (sz k c : Nat), zk_run E (zk_VT E) M_X11_depthOf (C_X11_depthOf E) P PX K (n + 1) 17 [some y0, l1, l2, l3] r (σ, sz, k, c) = (zk_isr y0 ∧ zk_run E (zk_VT E) M_X11_depthOf (C_X11_depthOf E) P PX K n 18 [some y0, l1, l2, l3] (y0 :: r) (σ, sz, k, c))) ∧
  (∀ (n : Nat) (l0 l1 l2 l3 : Option Value) (a : Nat) (r : List Value) (σ : zk_S) (sz k c : Nat), zk_run E (zk_VT E) M_X11_depthOf (C_X11_depthOf E) P PX K (n + 1) 18 [l0, l1, l2, l3] (.ref a :: r) (σ, sz, k, c) = zk_fld (zk_view E σ a) [10] 30 (fun v => zk_run E (zk_VT E) M_X11_depthOf (C_X11_depthOf E) P PX K n 21 [l0, l1, l2, l3] (v :: r) (σ, sz, k, c))) ∧
  (∀ (n : Nat) (l0 l1 l3 : Option Value) (y2 : Int32) (r : List Value) (σ : zk_S) (sz k c : Nat), zk_run E (zk_VT E) M_X11_depthOf (C_X11_depthOf E) P PX K (n + 1) 21 [l0, l1, some (.int y2), l3] r (σ, sz, k, c) = zk_run E (zk_VT E) M_X11_depthOf (C_X11_depthOf E) P PX K n 22 [l0, l1, some (.int y2), l3] (.int y2 :: r) (σ, sz, k, c)) ∧
  (∀ (n : Nat) (l0 l1 l2 l3 : Option Value) (a : Nat) (i : Int32) (r : List Value) (σ : zk_S) (sz k c : Nat), zk_run E (zk_VT E) M_X11_depthOf (C_X11_depthOf E) P PX K (n + 1) 22 [l0, l1, l2, l3] (.int i :: .ref a :: r) (σ, sz, k, c) = zk_ild (zk_view E σ a) (zk_ar E 0) i (fun x => zk_run E (zk_VT E) M_X11_depthOf (C_X11_depthOf E) P PX K n 23 [l0, l1, l2, l3] (.int x :: r) (σ, sz, k, c))) ∧
  (∀ (n : Nat) (l0 l1 l2 l3 : Option Value)  (r : List Value) (σ : zk_S) (sz k c : Nat), zk_run E (zk_VT E) M_X11_depthOf (C_X11_depthOf E) P PX K (n + 1) 23 [l0, l1, l2, l3] r (σ, sz, k, c) = zk_run E (zk_VT E) M_X11_depthOf (C_X11_depthOf E) P PX K n 24 [l0, l1, l2, l3] (.int ((-1)) :: r) (σ, sz, k, c)) ∧
  (∀ (n : Nat) (l0 l1 l2 l3 : Option Value) (x y : Int32) (r : List Value) (σ : zk_S) (sz k c : Nat), zk_run E (zk_VT E) M_X11_depthOf (C_X11_depthOf E) P PX K (n + 1) 24 [l0, l1, l2, l3] (.int y :: .int x :: r) (σ, sz, k, c) = ((¬ x = y → zk_run E (zk_VT E) M_X11_depthOf (C_X11_depthOf E) P PX K n 29 [l0, l1, l2, l3] r (σ, sz, k, c)) ∧ (¬ (¬ x = y) → zk_run E (zk_VT E) M_X11_depthOf (C_X11_depthOf E) P PX K n 27 [l0, l1, l2, l3] r (σ, sz, k, c)))) ∧
  (∀ (n : Nat) (l0 l1 l2 l3 : Option Value)  (r : List Value) (σ : zk_S) (sz k c : Nat), zk_run E (zk_VT E) M_X11_depthOf (C_X11_depthOf E) P PX K (n + 1) 27 [l0, l1, l2, l3] r (σ, sz, k, c) = zk_run E (zk_VT E) M_X11_depthOf (C_X11_depthOf E) P PX K n 28 [l0, l1, l2, l3] (.int ((-1)) :: r) (σ, sz, k, c)) ∧
  (∀ (n : Nat) (l0 l1 l2 l3 : Option Value) (x : Int32)  (σ : zk_S) (sz k c : Nat), zk_run E (zk_VT E) M_X11_depthOf (C_X11_depthOf E) P PX K (n + 1) 28 [l0, l1, l2, l3] [.int x] (σ, sz, k, c) = (zk_nok (some (.int)) x ∧ P (some (.int x)) σ sz ∧ k ≤ 0 ∧ c ≤ 0)) ∧
  (∀ (n : Nat) (l1 l2 l3 : Option Value) (y0 : Value) (r : List Value) (σ : zk_S) (sz k c : Nat), zk_run E (zk_VT E) M_X11_depthOf (C_X11_depthOf E) P PX K (n + 1) 29 [some y0, l1, l2, l3] r (σ, sz, k, c) = (zk_isr y0 ∧ zk_run E (zk_VT E) M_X11_depthOf (C_X11_depthOf E) P PX K n 30 [some y0, l1, l2, l3] (y0 :: r) (σ, sz, k, c))) ∧
  (∀ (n : Nat) (l1 l2 l3 : Option Value) (y0 : Value) (r : List Value) (σ : zk_S) (sz k c : Nat), zk_run E (zk_VT E) M_X11_depthOf (C_X11_depthOf E) P PX K (n + 1) 30 [some y0, l1, l2, l3] r (σ, sz, k, c) = (zk_isr y0 ∧ zk_run E (zk_VT E) M_X11_depthOf (C_X11_depthOf E) P PX K n 31 [some y0, l1, l2, l3] (y0 :: r) (σ, sz, k, c))) ∧
  (∀ (n : Nat) (l0 l1 l2 l3 : Option Value) (a : Nat) (r : List Value) (σ : zk_S) (sz k c : Nat), zk_run E (zk_VT E) M_X11_depthOf (C_X11_depthOf E) P PX K (n + 1) 31 [l0, l1, l2, l3] (.ref a :: r) (σ, sz, k, c) = zk_fld (zk_view E σ a) [10] 30 (fun v => zk_run E (zk_VT E) M_X11_depthOf (C_X11_depthOf E) P PX K n 34 [l0, l1, l2, l3] (v :: r) (σ, sz, k, c))) ∧
  (∀ (n : Nat) (l0 l1 l3 : Option Value) (y2 : Int32) (r : List Value) (σ : zk_S) (sz k c : Nat), zk_run E (zk_VT E) M_X11_depthOf (C_X11_depthOf E) P PX K (n + 1) 34 [l0, l1, some (.int y2), l3] r (σ, sz, k, c) = zk_run E (zk_VT E) M_X11_depthOf (C_X11_depthOf E) P PX K n 35 [l0, l1, some (.int y2), l3] (.int y2 :: r) (σ, sz, k, c)) ∧
  (∀ (n : Nat) (l0 l1 l2 l3 : Option Value) (a : Nat) (i : Int32) (r : List Value) (σ : zk_S) (sz k c : Nat), zk_run E (zk_VT E) M_X11_depthOf (C_X11_depthOf E) P PX K (n + 1) 35 [l0, l1, l2, l3] (.int i :: .ref a :: r) (σ, sz, k, c) = zk_ild (zk_view E σ a) (zk_ar E 0) i (fun x => zk_run E (zk_VT E) M_X11_depthOf (C_X11_depthOf E) P PX K n 36 [l0, l1, l2, l3] (.int x :: r) (σ, sz, k, c))) ∧
  (∀ (n : Nat) (l0 l1 l2 l3 : Option Value) (v0 : Value) (v1 : Value)  (σ : zk_S) (sz k c : Nat), zk_run E (zk_VT E) M_X11_depthOf (C_X11_depthOf E) P PX K (n + 1) 36 [l0, l1, l2, l3] [v0, v1] (σ, sz, k, c) = (k + 0 ≤ 0 ∧ c + 0 ≤ 0 ∧ (zk_rv (zk_VT E) (fun ci => Nat.beq ci 10) (sp_X11_into E)) [v1, v0] σ sz (fun v s2 z2 => zk_run E (zk_VT E) M_X11_depthOf (C_X11_depthOf E) P PX K n 39 [l0, l1, l2, l3] (zk_psh v []) (s2, z2, k + 0, c + 0)) (fun X s2 z2 => PX X s2 z2))) ∧
  (∀ (n : Nat) (l0 l1 l2 l3 : Option Value) (x : Int32) (r : List Value) (σ : zk_S) (sz k c : Nat), zk_run E (zk_VT E) M_X11_depthOf (C_X11_depthOf E) P PX K (n + 1) 39 [l0, l1, l2, l3] (.int x :: r) (σ, sz, k, c) = zk_run E (zk_VT E) M_X11_depthOf (C_X11_depthOf E) P PX K n 40 [l0, zk_kl l1, some (.int x), l3] r (σ, sz, k, c)) ∧
  (∀ (n : Nat) (l0 l1 l2 : Option Value) (y3 : Int32) (r : List Value) (σ : zk_S) (sz k c : Nat), zk_run E (zk_VT E) M_X11_depthOf (C_X11_depthOf E) P PX K (n + 1) 40 [l0, l1, l2, some (.int y3)] r (σ, sz, k, c) = zk_run E (zk_VT E) M_X11_depthOf (C_X11_depthOf E) P PX K n 43 [l0, l1, zk_kl l2, some (.int (y3 + 1))] r (σ, sz, k, c)) ∧
  (∀ (n : Nat) (l0 l1 l2 l3 : Option Value)  (r : List Value) (σ : zk_S) (sz k c : Nat), zk_run E (zk_VT E) M_X11_depthOf (C_X11_depthOf E) P PX K (n + 1) 43 [l0, l1, l2, l3] r (σ, sz, k, c) = zk_run E (zk_VT E) M_X11_depthOf (C_X11_depthOf E) P PX K n 4 [l0, l1, l2, l3] r (σ, sz, k, c)) ∧
  (∀ (n : Nat) (l0 l1 l2 l3 : Option Value)  (r : List Value) (σ : zk_S) (sz k c : Nat), zk_run E (zk_VT E) M_X11_depthOf (C_X11_depthOf E) P PX K (n + 1) 46 [l0, l1, l2, l3] r (σ, sz, k, c) = zk_run E (zk_VT E) M_X11_depthOf (C_X11_depthOf E) P PX K n 47 [l0, l1, l2, l3] (.int ((-1)) :: r) (σ, sz, k, c)) ∧
  (∀ (n : Nat) (l0 l1 l2 l3 : Option Value) (x : Int32)  (σ : zk_S) (sz k c : Nat), zk_run E (zk_VT E) M_X11_depthOf (C_X11_depthOf E) P PX K (n + 1) 47 [l0, l1, l2, l3] [.int x] (σ, sz, k, c) = (zk_nok (some (.int)) x ∧ P (some (.int x)) σ sz ∧ k ≤ 0 ∧ c ≤ 0)) ∧
  (∀ (n : Nat) (l0 l1 l2 l3 : Option Value) (r : List Value) (w : zk_W zk_S), zk_go E (zk_VT E) M_X11_depthOf (C_X11_depthOf E) P PX K n 0 [l0, l1, l2, l3] r w = zk_run E (zk_VT E) M_X11_depthOf (C_X11_depthOf E) P PX K (n + 1) 0 [l0, l1, l2, l3] r w) ∧
  (∀ (n : Nat) (l0 l1 l2 : Option Value) (y3 : Int32) (r : List Value) (σ : zk_S) (sz k c : Nat), zk_go E (zk_VT E) M_X11_depthOf (C_X11_depthOf E) P PX K n 4 [l0, l1, l2, some (.int y3)] r (σ, sz, k, c) = zk_run E (zk_VT E) M_X11_depthOf (C_X11_depthOf E) P PX K n 5 [l0, l1, l2, some (.int y3)] (.int y3 :: r) (σ, sz, k, c)) := ⟨by intros; rfl, by intros; rfl, by intros; rfl, by intros; rfl, by intros; rfl, by intros; rfl, by intros; rfl, by intros; rfl, by intros; rfl, by intros; rfl, by intros; rfl, by intros; rfl, by intros; rfl, by intros; rfl, by intros; rfl, by intros; rfl, by intros; rfl, by intros; rfl, by intros; rfl, by intros; rfl, by intros; rfl, by intros; rfl, by intros; rfl, by intros; rfl, by intros; rfl, by intros; rfl, by intros; rfl, by intros; rfl, by intros; rfl, by intros; rfl, by intros; rfl, by intros; rfl, by intros; rfl⟩
theorem vc_X11_depthOf (E : zk_E) : zk_VC E (zk_VT E) M_X11_depthOf (C_X11_depthOf E) 4 (sp_X11_depthOf E) := by
  intro av σ sz P PX h
  obtain ⟨J, N, Q, O, U⟩ := σ
  unfold sp_X11_depthOf at h
  split at h
  case h_2 => exact h.elim
  rename_i a0 r
  obtain ⟨rfl, h⟩ := h
  refine ⟨Nat.le_of_ble_eq_true rfl, fun G hG => ?_⟩
  change G 0 [some (.ref (zk_ad E 22)), some (.int r), none, none] [] ((J, N, Q, O, U), sz, 0, 0)
  try dsimp only at h
  obtain ⟨hmi, hlw, ⟨j, hj, rfl⟩, h⟩ := h
  have hj20 : j < 20 := Nat.lt_of_lt_of_le hj hmi.1.1.2
  rw [n_cl (by omega)] at h
  have loop : ∀ f m r, m + f = 21 → (r = -1 ∨ ∃ q, q < m_nr J ∧ r = nI q) → P (some (.int (g_dep J N f r m))) (J, N, Q, O, U) sz → G 4 [some (.ref (zk_ad E 22)), some (.int (nI j)), some (.int r), some (.int (nI m))] [] ((J, N, Q, O, U), sz, 0, 0) := by
    intro f
    induction f with
    | zero =>
      intro m r hm hr hP
      have c1 : (20 : Int32) < nI m := (nI_lt (a := 20) (by omega) (by omega) : nI 20 < nI m)
      (refine hG 900 _ _ _ _ ?_; simp only [r_X11_depthOf, zk_kl_none, zk_kl_int, zk_kl_ref, zk_kl_null, zk_kl_long, zk_kl_rf, zk_isr_ref, zk_isr_null, zk_isr_rf9, zk_c1_int, zk_c1_ref, zk_c1_null, zk_c1_rf, zk_psh_some, zk_psh_none, zk_nok_int, zk_nok_bool0, zk_nok_bool1, zk_nok_b, zk_fok_0, zk_fok_1, zk_fok_2, zk_fok_n, zk_fok_rf, zb_f, zb_p, zb_i, zb_a, zb_s, zk_nth_0, zk_nth_s, zk_fld_o, zk_put_o, zk_rv_eq, zk_ri_eq, zk_is_o, List.mem_cons, List.not_mem_nil, or_false, false_or, or_true, true_or, and_true, true_and, not_false_iff, not_true_eq_false, true_implies, false_implies, imp_self, implies_true, forall_const, zk_lit, zk_uj_ap, zk_un_ap, zk_un_un, zk_uj_uj, Nat.reduceEqDiff, eq_self, zk_bq, Bool.true_or, Bool.false_or, Nat.le_refl, Nat.zero_add, Nat.add_zero, Nat.reduceAdd, Nat.reduceLeDiff, Nat.le_zero_eq, and_self, and_false, false_and, ite_true, ite_false, Nat.zero_le, List.length_cons, List.length_nil, Option.some.injEq, forall_eq', reduceCtorEq, c1])
      exact hP
    | succ f ih =>
      intro m r hm hr hP
      have c1 : ¬ (20 : Int32) < nI m := (nI_nlt (a := 20) (by omega) (by decide) : ¬ nI 20 < nI m)
      unfold g_dep at hP
      rcases hr with rfl | ⟨q, hq, rfl⟩
      · rw [if_pos rfl] at hP
        (refine hG 900 _ _ _ _ ?_; simp only [r_X11_depthOf, zk_kl_none, zk_kl_int, zk_kl_ref, zk_kl_null, zk_kl_long, zk_kl_rf, zk_isr_ref, zk_isr_null, zk_isr_rf9, zk_c1_int, zk_c1_ref, zk_c1_null, zk_c1_rf, zk_psh_some, zk_psh_none, zk_nok_int, zk_nok_bool0, zk_nok_bool1, zk_nok_b, zk_fok_0, zk_fok_1, zk_fok_2, zk_fok_n, zk_fok_rf, zb_f, zb_p, zb_i, zb_a, zb_s, zk_nth_0, zk_nth_s, zk_fld_o, zk_put_o, zk_rv_eq, zk_ri_eq, zk_is_o, List.mem_cons, List.not_mem_nil, or_false, false_or, or_true, true_or, and_true, true_and, not_false_iff, not_true_eq_false, true_implies, false_implies, imp_self, implies_true, forall_const, zk_lit, zk_uj_ap, zk_un_ap, zk_un_un, zk_uj_uj, Nat.reduceEqDiff, eq_self, zk_bq, Bool.true_or, Bool.false_or, Nat.le_refl, Nat.zero_add, Nat.add_zero, Nat.reduceAdd, Nat.reduceLeDiff, Nat.le_zero_eq, and_self, and_false, false_and, ite_true, ite_false, Nat.zero_le, List.length_cons, List.length_nil, Option.some.injEq, forall_eq', reduceCtorEq, c1])
        exact hP
      · have hq20 : q < 20 := Nat.lt_of_lt_of_le hq hmi.1.1.2
        have hcl : (nI q).toNatClampNeg = q := n_cl (by omega)
        have hin : vp_in (nI q) 20 := n_in hq20 (by decide)
        have c2 := nI_ne1 (r := q) (by omega)
        rw [if_neg c2, hcl] at hP
        have h48 := hlw q hq
        by_cases q1 : lea J N q = 100
        · rw [if_pos q1] at hP
          rw [q1, show g_lv 100 = -1 from rfl] at h48
          (refine hG 900 _ _ _ _ ?_; simp only [r_X11_depthOf, zk_kl_none, zk_kl_int, zk_kl_ref, zk_kl_null, zk_kl_long, zk_kl_rf, zk_isr_ref, zk_isr_null, zk_isr_rf9, zk_c1_int, zk_c1_ref, zk_c1_null, zk_c1_rf, zk_psh_some, zk_psh_none, zk_nok_int, zk_nok_bool0, zk_nok_bool1, zk_nok_b, zk_fok_0, zk_fok_1, zk_fok_2, zk_fok_n, zk_fok_rf, zb_f, zb_p, zb_i, zb_a, zb_s, zk_nth_0, zk_nth_s, zk_fld_o, zk_put_o, zk_rv_eq, zk_ri_eq, zk_is_o, List.mem_cons, List.not_mem_nil, or_false, false_or, or_true, true_or, and_true, true_and, not_false_iff, not_true_eq_false, true_implies, false_implies, imp_self, implies_true, forall_const, zk_lit, zk_uj_ap, zk_un_ap, zk_un_un, zk_uj_uj, Nat.reduceEqDiff, eq_self, zk_bq, Bool.true_or, Bool.false_or, Nat.le_refl, Nat.zero_add, Nat.add_zero, Nat.reduceAdd, Nat.reduceLeDiff, Nat.le_zero_eq, and_self, and_false, false_and, ite_true, ite_false, Nat.zero_le, List.length_cons, List.length_nil, Option.some.injEq, forall_eq', reduceCtorEq, c1, c2, hin, hcl, h48])
          exact hP
        · rw [if_neg q1] at hP
          have ha := lea_act q1
          have he := (m_act_mem.mp ha.1).1
          rw [show g_lv (lea J N q) = nI (lea J N q) from if_neg q1] at h48
          have c3 := nI_ne1 (r := lea J N q) (by omega)
          have hcl2 : (nI (lea J N q)).toNatClampNeg = lea J N q := n_cl (by omega)
          have hx3 : ∃ e1, e1 < 100 ∧ nI (lea J N q) = nI e1 := ⟨_, he, rfl⟩
          have ih2 := ih (m + 1) (m_into N (lea J N q)) (by omega) (by
            obtain ⟨r, -, -, w | ⟨q2, w1, w2, w3⟩⟩ := m_ends hmi ha.1
            · exact Or.inl w
            · exact Or.inr ⟨q2, w1.1, w3⟩) hP
          (refine hG 900 _ _ _ _ ?_; simp only [r_X11_depthOf, zk_kl_none, zk_kl_int, zk_kl_ref, zk_kl_null, zk_kl_long, zk_kl_rf, zk_isr_ref, zk_isr_null, zk_isr_rf9, zk_c1_int, zk_c1_ref, zk_c1_null, zk_c1_rf, zk_psh_some, zk_psh_none, zk_nok_int, zk_nok_bool0, zk_nok_bool1, zk_nok_b, zk_fok_0, zk_fok_1, zk_fok_2, zk_fok_n, zk_fok_rf, zb_f, zb_p, zb_i, zb_a, zb_s, zk_nth_0, zk_nth_s, zk_fld_o, zk_put_o, zk_rv_eq, zk_ri_eq, zk_is_o, List.mem_cons, List.not_mem_nil, or_false, false_or, or_true, true_or, and_true, true_and, not_false_iff, not_true_eq_false, true_implies, false_implies, imp_self, implies_true, forall_const, zk_lit, zk_uj_ap, zk_un_ap, zk_un_un, zk_uj_uj, Nat.reduceEqDiff, eq_self, zk_bq, Bool.true_or, Bool.false_or, Nat.le_refl, Nat.zero_add, Nat.add_zero, Nat.reduceAdd, Nat.reduceLeDiff, Nat.le_zero_eq, and_self, and_false, false_and, ite_true, ite_false, Nat.zero_le, List.length_cons, List.length_nil, Option.some.injEq, forall_eq', reduceCtorEq, c1, c2, hin, hcl, h48, c3, hcl2, hx3, spe_X11_into, n_succ])
          exact ih2
  have l0 := loop 21 0 (nI j) (by omega) (Or.inr ⟨j, hj, rfl⟩) h
  (refine hG 900 _ _ _ _ ?_; simp only [r_X11_depthOf, zk_kl_none, zk_kl_int, zk_kl_ref, zk_kl_null, zk_kl_long, zk_kl_rf, zk_isr_ref, zk_isr_null, zk_isr_rf9, zk_c1_int, zk_c1_ref, zk_c1_null, zk_c1_rf, zk_psh_some, zk_psh_none, zk_nok_int, zk_nok_bool0, zk_nok_bool1, zk_nok_b, zk_fok_0, zk_fok_1, zk_fok_2, zk_fok_n, zk_fok_rf, zb_f, zb_p, zb_i, zb_a, zb_s, zk_nth_0, zk_nth_s, zk_fld_o, zk_put_o, zk_rv_eq, zk_ri_eq, zk_is_o, List.mem_cons, List.not_mem_nil, or_false, false_or, or_true, true_or, and_true, true_and, not_false_iff, not_true_eq_false, true_implies, false_implies, imp_self, implies_true, forall_const, zk_lit, zk_uj_ap, zk_un_ap, zk_un_un, zk_uj_uj, Nat.reduceEqDiff, eq_self, zk_bq, Bool.true_or, Bool.false_or, Nat.le_refl, Nat.zero_add, Nat.add_zero, Nat.reduceAdd, Nat.reduceLeDiff, Nat.le_zero_eq, and_self, and_false, false_and, ite_true, ite_false, Nat.zero_le, List.length_cons, List.length_nil, Option.some.injEq, forall_eq', reduceCtorEq])
  exact l0
theorem ct_X11_depthOf {l : Launch} (hl : l.stackTraces = false) (E : zk_E) : zk_C l E (zk_VT E) yX11_depthOf cX11_depthOf 4 (some (.int)) rm_X11_depthOf (sp_X11_depthOf E) := by
  refine zk_meth (M := M_X11_depthOf) (C := C_X11_depthOf E) hl (by decide +kernel) rfl (fun _ _ => rfl) (zk_VT_ok E) MO_X11_depthOf TO_X11_depthOf THo_X11_depthOf ?_ (vc_X11_depthOf E)
  exact fun p e s m args below meth c X pc n mc ms sp2 h => by
    have h2 := zk_lka_mem h
    simp only [List.mem_cons, List.not_mem_nil, or_false, Prod.mk.injEq] at h2
    rcases h2 with ⟨rfl, rfl, rfl, rfl, rfl⟩
    exact zk_coV (idx := 213) X (ct_X11_into hl E) (List.forall_mem_cons.mpr ⟨zk_wi 1239 (by decide +kernel) rfl, List.forall_mem_cons.mpr ⟨zk_wi 1241 (by decide +kernel) rfl, List.forall_mem_cons.mpr ⟨zk_wp 27 (by decide +kernel) rfl, List.forall_mem_cons.mpr ⟨zk_wi 6 (by decide +kernel) rfl, List.forall_mem_cons.mpr ⟨zk_wi 1242 (by decide +kernel) rfl, fun _ h => absurd h List.not_mem_nil⟩⟩⟩⟩⟩) (fun ci h => by
      have h := Nat.eq_of_beq_eq_true h
      subst h
      exact ⟨_, _, rfl⟩) (by decide +kernel) ⟨by decide, by decide, by decide +kernel⟩ ⟨by decide, by decide⟩

