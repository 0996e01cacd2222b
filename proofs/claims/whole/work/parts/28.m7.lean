/-! the reference: solve -/
theorem DD_1 {J N : Nat → Nat → Int32} {e : Nat} (h : ¬ m_into N e = -1) : DD J N 1 e = INF := by
  show FF J N (fun _ => INF) e = INF
  unfold FF
  rw [if_neg h]
  apply Nat.min_eq_left
  rcases (g_least_le (J := J) (N := N) (v := fun _ => INF) (r := m_into N e) (b := nI (e / 2)) (x := g_x N e) (y := g_y N e)).mp (Nat.le_refl _) with q | ⟨f, -, q, -⟩
  · omega
  · exact absurd q.2.2 (Nat.lt_irrefl _)
theorem DD_out {J N : Nat → Nat → Int32} {e k : Nat} (h : m_into N e = -1) : DD J N (k + 1) e = 0 := by
  show FF J N _ e = 0
  unfold FF; rw [if_pos h]
theorem sum_le {v v2 : Nat → Nat} : ∀ {L : List Nat}, (∀ e ∈ L, v2 e ≤ v e) → (L.map v2).sum ≤ (L.map v).sum
  | [], _ => Nat.le_refl _
  | e :: L, h => by
    have h1 := h e List.mem_cons_self
    have h2 := sum_le (fun e he => h e (List.mem_cons_of_mem _ he) : ∀ e ∈ L, v2 e ≤ v e)
    simp only [List.map_cons, List.sum_cons]
    omega
theorem sum_lt {v v2 : Nat → Nat} {e : Nat} : ∀ {L : List Nat}, e ∈ L → v2 e < v e → (∀ e ∈ L, v2 e ≤ v e) → (L.map v2).sum < (L.map v).sum
  | [], he, _, _ => absurd he List.not_mem_nil
  | f :: L, he, hlt, h => by
    have h1 := h f List.mem_cons_self
    have h2 := sum_le (fun e he => h e (List.mem_cons_of_mem _ he) : ∀ e ∈ L, v2 e ≤ v e)
    simp only [List.map_cons, List.sum_cons]
    rcases List.mem_cons.mp he with rfl | q
    · omega
    · have h3 := sum_lt q hlt (fun e he => h e (List.mem_cons_of_mem _ he))
      omega
/-- all is told -/
def SO (J J2 N N2 : Nat → Nat → Int32) : Prop := J2 = zk_uj J 22 35 (nI (m_act J N).length) ∧ SE J J2 N N2 ∧ RW J2 N2 (m_act J N) ∧ (∀ e ∈ m_act J N, N2 47 e = nI (LL J N e)) ∧ (∀ j, j < m_nr J → N2 48 j = g_lv (lea J N j) ∧ N2 49 j = nI (BB J N j).1 ∧ N2 50 j = g_deep J N j)
def sp_X11_solve (E : zk_E) : zk_Sp zk_S := fun av σ sz P PX => match av with
  | [.ref a] => a = zk_ad E 22 ∧ MI σ.1 σ.2.1 ∧ ∀ J2 N2, SO σ.1 J2 σ.2.1 N2 → P none (J2, N2, σ.2.2) sz
  | _ => False
theorem spe_X11_solve (E : zk_E) (a : Nat) (σ : zk_S) (sz : Nat) (P : zk_P zk_S) (PX : zk_X zk_S) : sp_X11_solve E [.ref a] σ sz P PX = (a = zk_ad E 22 ∧ MI σ.1 σ.2.1 ∧ ∀ J2 N2, SO σ.1 J2 σ.2.1 N2 → P none (J2, N2, σ.2.2) sz) := propext Iff.rfl
def C_X11_solve (E : zk_E) : zk_Cl zk_S := zk_lka [(1, 1, 0, 0, zk_rv (zk_VT E) (fun ci => Nat.beq ci 10) (sp_X11_collect E)), (31, 2, 0, 0, zk_rv (zk_VT E) (fun ci => Nat.beq ci 10) (sp_X11_into E)), (78, 2, 0, 0, zk_rv (zk_VT E) (fun ci => Nat.beq ci 10) (sp_X11_into E)), (93, 2, 0, 0, zk_rv (zk_VT E) (fun ci => Nat.beq ci 10) (sp_X11_into E)), (101, 2, 0, 0, zk_rv (zk_VT E) (fun ci => Nat.beq ci 10) (sp_X11_pointX E)), (106, 2, 0, 0, zk_rv (zk_VT E) (fun ci => Nat.beq ci 10) (sp_X11_pointY E)), (109, 5, 0, 0, zk_rv (zk_VT E) (fun ci => Nat.beq ci 10) (sp_X11_least E)), (189, 2, 0, 0, zk_rv (zk_VT E) (fun ci => Nat.beq ci 10) (sp_X11_leave E)), (215, 2, 0, 0, zk_rv (zk_VT E) (fun ci => Nat.beq ci 10) (sp_X11_depthOf E))]
theorem r_X11_solve (E : zk_E) (P : zk_P zk_S) (PX : zk_X zk_S) (K : Nat → zk_L → List Value → zk_W zk_S → Prop) : (∀ (n : Nat) (l1 l2 l3 l4 : Option Value) (y0 : Value) (r : List Value) (σ : zk_S) (sz k c : Nat), zk_run E (zk_VT E) M_X11_solve (C_X11_solve E) P PX K (n + 1) 0 [some y0, l1, l2, l3, l4] r (σ, sz, k, c) = (zk_isr y0 ∧ zk_run E (zk_VT E) M_X11_solve (C_X11_solve E) P PX K n 1 [some y0, l1, l2, l3, l4] (y0 :: r) (σ, sz, k, c))) ∧
  (∀ (n : Nat) (l0 l1 l2 l3 l4 : Option Value) (v0 : Value)  (σ : zk_S) (sz k c : Nat), zk_run E (zk_VT E) M_X11_solve (C_X11_solve E) P PX K (n + 1) 1 [l0, l1, l2, l3, l4] [v0] (σ, sz, k, c) = (k + 0 ≤ 0 ∧ c + 0 ≤ 0 ∧ (zk_rv (zk_VT E) (fun ci => Nat.beq ci 10) (sp_X11_collect E)) [v0] σ sz (fun v s2 z2 => zk_run E (zk_VT E) M_X11_solve (C_X11_solve E) P PX K n 4 [l0, l1, l2, l3, l4] (zk_psh v []) (s2, z2, k + 0, c + 0)) (fun X s2 z2 => PX X s2 z2))) ∧
  (∀ (n : Nat) (l0 l1 l2 l3 l4 : Option Value)  (r : List Value) (σ : zk_S) (sz k c : Nat), zk_run E (zk_VT E) M_X11_solve (C_X11_solve E) P PX K (n + 1) 4 [l0, l1, l2, l3, l4] r (σ, sz, k, c) = zk_run E (zk_VT E) M_X11_solve (C_X11_solve E) P PX K n 5 [l0, l1, l2, l3, l4] (.int (0) :: r) (σ, sz, k, c)) ∧
  (∀ (n : Nat) (l0 l1 l2 l3 l4 : Option Value) (x : Int32) (r : List Value) (σ : zk_S) (sz k c : Nat), zk_run E (zk_VT E) M_X11_solve (C_X11_solve E) P PX K (n + 1) 5 [l0, l1, l2, l3, l4] (.int x :: r) (σ, sz, k, c) = zk_run E (zk_VT E) M_X11_solve (C_X11_solve E) P PX K n 6 [zk_kl l0, some (.int x), l2, l3, l4] r (σ, sz, k, c)) ∧
  (∀ (n : Nat) (l0 l1 l2 l3 l4 : Option Value)  (r : List Value) (σ : zk_S) (sz k c : Nat), zk_run E (zk_VT E) M_X11_solve (C_X11_solve E) P PX K (n + 1) 6 [l0, l1, l2, l3, l4] r (σ, sz, k, c) = K 6 [l0, l1, l2, l3, l4] r (σ, sz, k, c)) ∧
  (∀ (n : Nat) (l1 l2 l3 l4 : Option Value) (y0 : Value) (r : List Value) (σ : zk_S) (sz k c : Nat), zk_run E (zk_VT E) M_X11_solve (C_X11_solve E) P PX K (n + 1) 7 [some y0, l1, l2, l3, l4] r (σ, sz, k, c) = (zk_isr y0 ∧ zk_run E (zk_VT E) M_X11_solve (C_X11_solve E) P PX K n 8 [some y0, l1, l2, l3, l4] (y0 :: r) (σ, sz, k, c))) ∧
  (∀ (n : Nat) (l0 l1 l2 l3 l4 : Option Value) (a : Nat) (r : List Value) (σ : zk_S) (sz k c : Nat), zk_run E (zk_VT E) M_X11_solve (C_X11_solve E) P PX K (n + 1) 8 [l0, l1, l2, l3, l4] (.ref a :: r) (σ, sz, k, c) = zk_fld (zk_view E σ a) [10] 35 (fun v => zk_run E (zk_VT E) M_X11_solve (C_X11_solve E) P PX K n 11 [l0, l1, l2, l3, l4] (v :: r) (σ, sz, k, c))) ∧
  (∀ (n : Nat) (l0 l1 l2 l3 l4 : Option Value) (x y : Int32) (r : List Value) (σ : zk_S) (sz k c : Nat), zk_run E (zk_VT E) M_X11_solve (C_X11_solve E) P PX K (n + 1) 11 [l0, l1, l2, l3, l4] (.int y :: .int x :: r) (σ, sz, k, c) = ((y ≤ x → zk_run E (zk_VT E) M_X11_solve (C_X11_solve E) P PX K n 51 [l0, l1, l2, l3, l4] r (σ, sz, k, c)) ∧ (¬ (y ≤ x) → zk_run E (zk_VT E) M_X11_solve (C_X11_solve E) P PX K n 14 [l0, l1, l2, l3, l4] r (σ, sz, k, c)))) ∧
  (∀ (n : Nat) (l1 l2 l3 l4 : Option Value) (y0 : Value) (r : List Value) (σ : zk_S) (sz k c : Nat), zk_run E (zk_VT E) M_X11_solve (C_X11_solve E) P PX K (n + 1) 14 [some y0, l1, l2, l3, l4] r (σ, sz, k, c) = (zk_isr y0 ∧ zk_run E (zk_VT E) M_X11_solve (C_X11_solve E) P PX K n 15 [some y0, l1, l2, l3, l4] (y0 :: r) (σ, sz, k, c))) ∧
  (∀ (n : Nat) (l0 l1 l2 l3 l4 : Option Value) (a : Nat) (r : List Value) (σ : zk_S) (sz k c : Nat), zk_run E (zk_VT E) M_X11_solve (C_X11_solve E) P PX K (n + 1) 15 [l0, l1, l2, l3, l4] (.ref a :: r) (σ, sz, k, c) = zk_fld (zk_view E σ a) [10] 29 (fun v => zk_run E (zk_VT E) M_X11_solve (C_X11_solve E) P PX K n 18 [l0, l1, l2, l3, l4] (v :: r) (σ, sz, k, c))) ∧
  (∀ (n : Nat) (l1 l2 l3 l4 : Option Value) (y0 : Value) (r : List Value) (σ : zk_S) (sz k c : Nat), zk_run E (zk_VT E) M_X11_solve (C_X11_solve E) P PX K (n + 1) 18 [some y0, l1, l2, l3, l4] r (σ, sz, k, c) = (zk_isr y0 ∧ zk_run E (zk_VT E) M_X11_solve (C_X11_solve E) P PX K n 19 [some y0, l1, l2, l3, l4] (y0 :: r) (σ, sz, k, c))) ∧
  (∀ (n : Nat) (l0 l1 l2 l3 l4 : Option Value) (a : Nat) (r : List Value) (σ : zk_S) (sz k c : Nat), zk_run E (zk_VT E) M_X11_solve (C_X11_solve E) P PX K (n + 1) 19 [l0, l1, l2, l3, l4] (.ref a :: r) (σ, sz, k, c) = zk_fld (zk_view E σ a) [10] 36 (fun v => zk_run E (zk_VT E) M_X11_solve (C_X11_solve E) P PX K n 22 [l0, l1, l2, l3, l4] (v :: r) (σ, sz, k, c))) ∧
  (∀ (n : Nat) (l0 l2 l3 l4 : Option Value) (y1 : Int32) (r : List Value) (σ : zk_S) (sz k c : Nat), zk_run E (zk_VT E) M_X11_solve (C_X11_solve E) P PX K (n + 1) 22 [l0, some (.int y1), l2, l3, l4] r (σ, sz, k, c) = zk_run E (zk_VT E) M_X11_solve (C_X11_solve E) P PX K n 23 [l0, some (.int y1), l2, l3, l4] (.int y1 :: r) (σ, sz, k, c)) ∧
  (∀ (n : Nat) (l0 l1 l2 l3 l4 : Option Value) (a : Nat) (i : Int32) (r : List Value) (σ : zk_S) (sz k c : Nat), zk_run E (zk_VT E) M_X11_solve (C_X11_solve E) P PX K (n + 1) 23 [l0, l1, l2, l3, l4] (.int i :: .ref a :: r) (σ, sz, k, c) = zk_ild (zk_view E σ a) (zk_ar E 0) i (fun x => zk_run E (zk_VT E) M_X11_solve (C_X11_solve E) P PX K n 24 [l0, l1, l2, l3, l4] (.int x :: r) (σ, sz, k, c))) ∧
  (∀ (n : Nat) (l1 l2 l3 l4 : Option Value) (y0 : Value) (r : List Value) (σ : zk_S) (sz k c : Nat), zk_run E (zk_VT E) M_X11_solve (C_X11_solve E) P PX K (n + 1) 24 [some y0, l1, l2, l3, l4] r (σ, sz, k, c) = (zk_isr y0 ∧ zk_run E (zk_VT E) M_X11_solve (C_X11_solve E) P PX K n 25 [some y0, l1, l2, l3, l4] (y0 :: r) (σ, sz, k, c))) ∧
  (∀ (n : Nat) (l1 l2 l3 l4 : Option Value) (y0 : Value) (r : List Value) (σ : zk_S) (sz k c : Nat), zk_run E (zk_VT E) M_X11_solve (C_X11_solve E) P PX K (n + 1) 25 [some y0, l1, l2, l3, l4] r (σ, sz, k, c) = (zk_isr y0 ∧ zk_run E (zk_VT E) M_X11_solve (C_X11_solve E) P PX K n 26 [some y0, l1, l2, l3, l4] (y0 :: r) (σ, sz, k, c))) ∧
  (∀ (n : Nat) (l0 l1 l2 l3 l4 : Option Value) (a : Nat) (r : List Value) (σ : zk_S) (sz k c : Nat), zk_run E (zk_VT E) M_X11_solve (C_X11_solve E) P PX K (n + 1) 26 [l0, l1, l2, l3, l4] (.ref a :: r) (σ, sz, k, c) = zk_fld (zk_view E σ a) [10] 36 (fun v => zk_run E (zk_VT E) M_X11_solve (C_X11_solve E) P PX K n 29 [l0, l1, l2, l3, l4] (v :: r) (σ, sz, k, c))) ∧
  (∀ (n : Nat) (l0 l2 l3 l4 : Option Value) (y1 : Int32) (r : List Value) (σ : zk_S) (sz k c : Nat), zk_run E (zk_VT E) M_X11_solve (C_X11_solve E) P PX K (n + 1) 29 [l0, some (.int y1), l2, l3, l4] r (σ, sz, k, c) = zk_run E (zk_VT E) M_X11_solve (C_X11_solve E) P PX K n 30 [l0, some (.int y1), l2, l3, l4] (.int y1 :: r) (σ, sz, k, c)) ∧
  (∀ (n : Nat) (l0 l1 l2 l3 l4 : Option Value) (a : Nat) (i : Int32) (r : List Value) (σ : zk_S) (sz k c : Nat), zk_run E (zk_VT E) M_X11_solve (C_X11_solve E) P PX K (n + 1) 30 [l0, l1, l2, l3, l4] (.int i :: .ref a :: r) (σ, sz, k, c) = zk_ild (zk_view E σ a) (zk_ar E 0) i (fun x => zk_run E (zk_VT E) M_X11_solve (C_X11_solve E) P PX K n 31 [l0, l1, l2, l3, l4] (.int x :: r) (σ, sz, k, c))) ∧
  (∀ (n : Nat) (l0 l1 l2 l3 l4 : Option Value) (v0 : Value) (v1 : Value) (v2 : Value) (v3 : Value)  (σ : zk_S) (sz k c : Nat), zk_run E (zk_VT E) M_X11_solve (C_X11_solve E) P PX K (n + 1) 31 [l0, l1, l2, l3, l4] [v0, v1, v2, v3] (σ, sz, k, c) = (k + 0 ≤ 0 ∧ c + 0 ≤ 0 ∧ (zk_rv (zk_VT E) (fun ci => Nat.beq ci 10) (sp_X11_into E)) [v1, v0] σ sz (fun v s2 z2 => zk_run E (zk_VT E) M_X11_solve (C_X11_solve E) P PX K n 34 [l0, l1, l2, l3, l4] (zk_psh v [v2, v3]) (s2, z2, k + 0, c + 0)) (fun X s2 z2 => PX X s2 z2))) ∧
  (∀ (n : Nat) (l0 l1 l2 l3 l4 : Option Value)  (r : List Value) (σ : zk_S) (sz k c : Nat), zk_run E (zk_VT E) M_X11_solve (C_X11_solve E) P PX K (n + 1) 34 [l0, l1, l2, l3, l4] r (σ, sz, k, c) = zk_run E (zk_VT E) M_X11_solve (C_X11_solve E) P PX K n 35 [l0, l1, l2, l3, l4] (.int ((-1)) :: r) (σ, sz, k, c)) ∧
  (∀ (n : Nat) (l0 l1 l2 l3 l4 : Option Value) (x y : Int32) (r : List Value) (σ : zk_S) (sz k c : Nat), zk_run E (zk_VT E) M_X11_solve (C_X11_solve E) P PX K (n + 1) 35 [l0, l1, l2, l3, l4] (.int y :: .int x :: r) (σ, sz, k, c) = ((¬ x = y → zk_run E (zk_VT E) M_X11_solve (C_X11_solve E) P PX K n 42 [l0, l1, l2, l3, l4] r (σ, sz, k, c)) ∧ (¬ (¬ x = y) → zk_run E (zk_VT E) M_X11_solve (C_X11_solve E) P PX K n 38 [l0, l1, l2, l3, l4] r (σ, sz, k, c)))) ∧
  (∀ (n : Nat) (l0 l1 l2 l3 l4 : Option Value)  (r : List Value) (σ : zk_S) (sz k c : Nat), zk_run E (zk_VT E) M_X11_solve (C_X11_solve E) P PX K (n + 1) 38 [l0, l1, l2, l3, l4] r (σ, sz, k, c) = zk_run E (zk_VT E) M_X11_solve (C_X11_solve E) P PX K n 39 [l0, l1, l2, l3, l4] (.int (0) :: r) (σ, sz, k, c)) ∧
  (∀ (n : Nat) (l0 l1 l2 l3 l4 : Option Value)  (r : List Value) (σ : zk_S) (sz k c : Nat), zk_run E (zk_VT E) M_X11_solve (C_X11_solve E) P PX K (n + 1) 39 [l0, l1, l2, l3, l4] r (σ, sz, k, c) = zk_run E (zk_VT E) M_X11_solve (C_X11_solve E) P PX K n 44 [l0, l1, l2, l3, l4] r (σ, sz, k, c)) ∧
  (∀ (n : Nat) (l0 l1 l2 l3 l4 : Option Value)  (r : List Value) (σ : zk_S) (sz k c : Nat), zk_run E (zk_VT E) M_X11_solve (C_X11_solve E) P PX K (n + 1) 42 [l0, l1, l2, l3, l4] r (σ, sz, k, c) = zk_run E (zk_VT E) M_X11_solve (C_X11_solve E) P PX K n 44 [l0, l1, l2, l3, l4] (.int (268435456) :: r) (σ, sz, k, c)) ∧
  (∀ (n : Nat) (l0 l1 l2 l3 l4 : Option Value) (a : Nat) (i x : Int32) (r : List Value) (σ : zk_S) (sz k c : Nat), zk_run E (zk_VT E) M_X11_solve (C_X11_solve E) P PX K (n + 1) 44 [l0, l1, l2, l3, l4] (.int x :: .int i :: .ref a :: r) (σ, sz, k, c) = zk_ist (zk_view E σ a) (zk_ar E 0) i x (fun e => zk_wrok E σ a e ∧ zk_run E (zk_VT E) M_X11_solve (C_X11_solve E) P PX K n 45 [l0, l1, l2, l3, l4] r (zk_wr E σ a e, sz, k, c))) ∧
  (∀ (n : Nat) (l0 l2 l3 l4 : Option Value) (y1 : Int32) (r : List Value) (σ : zk_S) (sz k c : Nat), zk_run E (zk_VT E) M_X11_solve (C_X11_solve E) P PX K (n + 1) 45 [l0, some (.int y1), l2, l3, l4] r (σ, sz, k, c) = zk_run E (zk_VT E) M_X11_solve (C_X11_solve E) P PX K n 48 [zk_kl l0, some (.int (y1 + 1)), l2, l3, l4] r (σ, sz, k, c)) ∧
  (∀ (n : Nat) (l0 l1 l2 l3 l4 : Option Value)  (r : List Value) (σ : zk_S) (sz k c : Nat), zk_run E (zk_VT E) M_X11_solve (C_X11_solve E) P PX K (n + 1) 48 [l0, l1, l2, l3, l4] r (σ, sz, k, c) = zk_run E (zk_VT E) M_X11_solve (C_X11_solve E) P PX K n 6 [l0, l1, l2, l3, l4] r (σ, sz, k, c)) ∧
  (∀ (n : Nat) (l0 l1 l2 l3 l4 : Option Value)  (r : List Value) (σ : zk_S) (sz k c : Nat), zk_run E (zk_VT E) M_X11_solve (C_X11_solve E) P PX K (n + 1) 51 [l0, l1, l2, l3, l4] r (σ, sz, k, c) = zk_run E (zk_VT E) M_X11_solve (C_X11_solve E) P PX K n 52 [l0, l1, l2, l3, l4] (.int (1) :: r) (σ, sz, k, c)) ∧
  (∀ (n : Nat) (l0 l1 l2 l3 l4 : Option Value) (x : Int32) (r : List Value) (σ : zk_S) (sz k c : Nat), zk_run E (zk_VT E) M_X11_solve (C_X11_solve E) P PX K (n + 1) 52 [l0, l1, l2, l3, l4] (.int x :: r) (σ, sz, k, c) = zk_run E (zk_VT E) M_X11_solve (C_X11_solve E) P PX K n 53 [zk_kl l0, some (.int x), l2, l3, l4] r (σ, sz, k, c)) ∧
  (∀ (n : Nat) (l0 l1 l2 l3 l4 : Option Value)  (r : List Value) (σ : zk_S) (sz k c : Nat), zk_run E (zk_VT E) M_X11_solve (C_X11_solve E) P PX K (n + 1) 53 [l0, l1, l2, l3, l4] r (σ, sz, k, c) = K 53 [l0, l1, l2, l3, l4] r (σ, sz, k, c)) ∧
  (∀ (n : Nat) (l0 l1 l2 l3 l4 : Option Value) (x : Int32) (r : List Value) (σ : zk_S) (sz k c : Nat), zk_run E (zk_VT E) M_X11_solve (C_X11_solve E) P PX K (n + 1) 54 [l0, l1, l2, l3, l4] (.int x :: r) (σ, sz, k, c) = ((x = 0 → zk_run E (zk_VT E) M_X11_solve (C_X11_solve E) P PX K n 177 [l0, l1, l2, l3, l4] r (σ, sz, k, c)) ∧ (¬ (x = 0) → zk_run E (zk_VT E) M_X11_solve (C_X11_solve E) P PX K n 57 [l0, l1, l2, l3, l4] r (σ, sz, k, c)))) ∧
  (∀ (n : Nat) (l0 l1 l2 l3 l4 : Option Value)  (r : List Value) (σ : zk_S) (sz k c : Nat), zk_run E (zk_VT E) M_X11_solve (C_X11_solve E) P PX K (n + 1) 57 [l0, l1, l2, l3, l4] r (σ, sz, k, c) = zk_run E (zk_VT E) M_X11_solve (C_X11_solve E) P PX K n 58 [l0, l1, l2, l3, l4] (.int (0) :: r) (σ, sz, k, c)) ∧
  (∀ (n : Nat) (l0 l1 l2 l3 l4 : Option Value) (x : Int32) (r : List Value) (σ : zk_S) (sz k c : Nat), zk_run E (zk_VT E) M_X11_solve (C_X11_solve E) P PX K (n + 1) 58 [l0, l1, l2, l3, l4] (.int x :: r) (σ, sz, k, c) = zk_run E (zk_VT E) M_X11_solve (C_X11_solve E) P PX K n 59 [zk_kl l0, some (.int x), l2, l3, l4] r (σ, sz, k, c)) ∧
  (∀ (n : Nat) (l0 l1 l2 l3 l4 : Option Value)  (r : List Value) (σ : zk_S) (sz k c : Nat), zk_run E (zk_VT E) M_X11_solve (C_X11_solve E) P PX K (n + 1) 59 [l0, l1, l2, l3, l4] r (σ, sz, k, c) = zk_run E (zk_VT E) M_X11_solve (C_X11_solve E) P PX K n 60 [l0, l1, l2, l3, l4] (.int (0) :: r) (σ, sz, k, c)) ∧
  (∀ (n : Nat) (l0 l1 l2 l3 l4 : Option Value) (x : Int32) (r : List Value) (σ : zk_S) (sz k c : Nat), zk_run E (zk_VT E) M_X11_solve (C_X11_solve E) P PX K (n + 1) 60 [l0, l1, l2, l3, l4] (.int x :: r) (σ, sz, k, c) = zk_run E (zk_VT E) M_X11_solve (C_X11_solve E) P PX K n 61 [l0, zk_kl l1, some (.int x), l3, l4] r (σ, sz, k, c)) ∧
  (∀ (n : Nat) (l0 l1 l2 l3 l4 : Option Value)  (r : List Value) (σ : zk_S) (sz k c : Nat), zk_run E (zk_VT E) M_X11_solve (C_X11_solve E) P PX K (n + 1) 61 [l0, l1, l2, l3, l4] r (σ, sz, k, c) = K 61 [l0, l1, l2, l3, l4] r (σ, sz, k, c)) ∧
  (∀ (n : Nat) (l1 l2 l3 l4 : Option Value) (y0 : Value) (r : List Value) (σ : zk_S) (sz k c : Nat), zk_run E (zk_VT E) M_X11_solve (C_X11_solve E) P PX K (n + 1) 62 [some y0, l1, l2, l3, l4] r (σ, sz, k, c) = (zk_isr y0 ∧ zk_run E (zk_VT E) M_X11_solve (C_X11_solve E) P PX K n 63 [some y0, l1, l2, l3, l4] (y0 :: r) (σ, sz, k, c))) ∧
  (∀ (n : Nat) (l0 l1 l2 l3 l4 : Option Value) (a : Nat) (r : List Value) (σ : zk_S) (sz k c : Nat), zk_run E (zk_VT E) M_X11_solve (C_X11_solve E) P PX K (n + 1) 63 [l0, l1, l2, l3, l4] (.ref a :: r) (σ, sz, k, c) = zk_fld (zk_view E σ a) [10] 35 (fun v => zk_run E (zk_VT E) M_X11_solve (C_X11_solve E) P PX K n 66 [l0, l1, l2, l3, l4] (v :: r) (σ, sz, k, c))) ∧
  (∀ (n : Nat) (l0 l1 l2 l3 l4 : Option Value) (x y : Int32) (r : List Value) (σ : zk_S) (sz k c : Nat), zk_run E (zk_VT E) M_X11_solve (C_X11_solve E) P PX K (n + 1) 66 [l0, l1, l2, l3, l4] (.int y :: .int x :: r) (σ, sz, k, c) = ((y ≤ x → zk_run E (zk_VT E) M_X11_solve (C_X11_solve E) P PX K n 174 [l0, l1, l2, l3, l4] r (σ, sz, k, c)) ∧ (¬ (y ≤ x) → zk_run E (zk_VT E) M_X11_solve (C_X11_solve E) P PX K n 69 [l0, l1, l2, l3, l4] r (σ, sz, k, c)))) := ⟨by intros; rfl, by intros; rfl, by intros; rfl, by intros; rfl, by intros; rfl, by intros; rfl, by intros; rfl, by intros; rfl, by intros; rfl, by intros; rfl, by intros; rfl, by intros; rfl, by intros; rfl, by intros; rfl, by intros; rfl, by intros; rfl, by intros; rfl, by intros; rfl, by intros; rfl, by intros; rfl, by intros; rfl, by intros; rfl, by intros; rfl, by intros; rfl, by intros; rfl, by intros; rfl, by intros; rfl, by intros; rfl, by intros; rfl, by intros; rfl, by intros; rfl, by intros; rfl, by intros; rfl, by intros; rfl, by intros; rfl, by intros; rfl, by intros; rfl, by intros; rfl, by intros; rfl, by intros; rfl⟩
theorem r_X11_solve_1 (E : zk_E) (P : zk_P zk_S) (PX : zk_X zk_S) (K : Nat → zk_L → List Value → zk_W zk_S → Prop) : (∀ (n : Nat) (l1 l2 l3 l4 : Option Value) (y0 : Value) (r : List Value) (σ : zk_S) (sz k c : Nat), zk_run E (zk_VT E) M_X11_solve (C_X11_solve E) P PX K (n + 1) 69 [some y0, l1, l2, l3, l4] r (σ, sz, k, c) = (zk_isr y0 ∧ zk_run E (zk_VT E) M_X11_solve (C_X11_solve E) P PX K n 70 [some y0, l1, l2, l3, l4] (y0 :: r) (σ, sz, k, c))) ∧
  (∀ (n : Nat) (l0 l1 l2 l3 l4 : Option Value) (a : Nat) (r : List Value) (σ : zk_S) (sz k c : Nat), zk_run E (zk_VT E) M_X11_solve (C_X11_solve E) P PX K (n + 1) 70 [l0, l1, l2, l3, l4] (.ref a :: r) (σ, sz, k, c) = zk_fld (zk_view E σ a) [10] 36 (fun v => zk_run E (zk_VT E) M_X11_solve (C_X11_solve E) P PX K n 73 [l0, l1, l2, l3, l4] (v :: r) (σ, sz, k, c))) ∧
  (∀ (n : Nat) (l0 l1 l3 l4 : Option Value) (y2 : Int32) (r : List Value) (σ : zk_S) (sz k c : Nat), zk_run E (zk_VT E) M_X11_solve (C_X11_solve E) P PX K (n + 1) 73 [l0, l1, some (.int y2), l3, l4] r (σ, sz, k, c) = zk_run E (zk_VT E) M_X11_solve (C_X11_solve E) P PX K n 74 [l0, l1, some (.int y2), l3, l4] (.int y2 :: r) (σ, sz, k, c)) ∧
  (∀ (n : Nat) (l0 l1 l2 l3 l4 : Option Value) (a : Nat) (i : Int32) (r : List Value) (σ : zk_S) (sz k c : Nat), zk_run E (zk_VT E) M_X11_solve (C_X11_solve E) P PX K (n + 1) 74 [l0, l1, l2, l3, l4] (.int i :: .ref a :: r) (σ, sz, k, c) = zk_ild (zk_view E σ a) (zk_ar E 0) i (fun x => zk_run E (zk_VT E) M_X11_solve (C_X11_solve E) P PX K n 75 [l0, l1, l2, l3, l4] (.int x :: r) (σ, sz, k, c))) ∧
  (∀ (n : Nat) (l0 l1 l2 l3 l4 : Option Value) (x : Int32) (r : List Value) (σ : zk_S) (sz k c : Nat), zk_run E (zk_VT E) M_X11_solve (C_X11_solve E) P PX K (n + 1) 75 [l0, l1, l2, l3, l4] (.int x :: r) (σ, sz, k, c) = zk_run E (zk_VT E) M_X11_solve (C_X11_solve E) P PX K n 76 [l0, l1, zk_kl l2, some (.int x), l4] r (σ, sz, k, c)) ∧
  (∀ (n : Nat) (l1 l2 l3 l4 : Option Value) (y0 : Value) (r : List Value) (σ : zk_S) (sz k c : Nat), zk_run E (zk_VT E) M_X11_solve (C_X11_solve E) P PX K (n + 1) 76 [some y0, l1, l2, l3, l4] r (σ, sz, k, c) = (zk_isr y0 ∧ zk_run E (zk_VT E) M_X11_solve (C_X11_solve E) P PX K n 77 [some y0, l1, l2, l3, l4] (y0 :: r) (σ, sz, k, c))) ∧
  (∀ (n : Nat) (l0 l1 l2 l4 : Option Value) (y3 : Int32) (r : List Value) (σ : zk_S) (sz k c : Nat), zk_run E (zk_VT E) M_X11_solve (C_X11_solve E) P PX K (n + 1) 77 [l0, l1, l2, some (.int y3), l4] r (σ, sz, k, c) = zk_run E (zk_VT E) M_X11_solve (C_X11_solve E) P PX K n 78 [l0, l1, l2, some (.int y3), l4] (.int y3 :: r) (σ, sz, k, c)) ∧
  (∀ (n : Nat) (l0 l1 l2 l3 l4 : Option Value) (v0 : Value) (v1 : Value)  (σ : zk_S) (sz k c : Nat), zk_run E (zk_VT E) M_X11_solve (C_X11_solve E) P PX K (n + 1) 78 [l0, l1, l2, l3, l4] [v0, v1] (σ, sz, k, c) = (k + 0 ≤ 0 ∧ c + 0 ≤ 0 ∧ (zk_rv (zk_VT E) (fun ci => Nat.beq ci 10) (sp_X11_into E)) [v1, v0] σ sz (fun v s2 z2 => zk_run E (zk_VT E) M_X11_solve (C_X11_solve E) P PX K n 81 [l0, l1, l2, l3, l4] (zk_psh v []) (s2, z2, k + 0, c + 0)) (fun X s2 z2 => PX X s2 z2))) ∧
  (∀ (n : Nat) (l0 l1 l2 l3 l4 : Option Value)  (r : List Value) (σ : zk_S) (sz k c : Nat), zk_run E (zk_VT E) M_X11_solve (C_X11_solve E) P PX K (n + 1) 81 [l0, l1, l2, l3, l4] r (σ, sz, k, c) = zk_run E (zk_VT E) M_X11_solve (C_X11_solve E) P PX K n 82 [l0, l1, l2, l3, l4] (.int ((-1)) :: r) (σ, sz, k, c)) ∧
  (∀ (n : Nat) (l0 l1 l2 l3 l4 : Option Value) (x y : Int32) (r : List Value) (σ : zk_S) (sz k c : Nat), zk_run E (zk_VT E) M_X11_solve (C_X11_solve E) P PX K (n + 1) 82 [l0, l1, l2, l3, l4] (.int y :: .int x :: r) (σ, sz, k, c) = ((¬ x = y → zk_run E (zk_VT E) M_X11_solve (C_X11_solve E) P PX K n 88 [l0, l1, l2, l3, l4] r (σ, sz, k, c)) ∧ (¬ (¬ x = y) → zk_run E (zk_VT E) M_X11_solve (C_X11_solve E) P PX K n 85 [l0, l1, l2, l3, l4] r (σ, sz, k, c)))) ∧
  (∀ (n : Nat) (l0 l1 l2 l3 l4 : Option Value)  (r : List Value) (σ : zk_S) (sz k c : Nat), zk_run E (zk_VT E) M_X11_solve (C_X11_solve E) P PX K (n + 1) 85 [l0, l1, l2, l3, l4] r (σ, sz, k, c) = zk_run E (zk_VT E) M_X11_solve (C_X11_solve E) P PX K n 168 [l0, l1, l2, l3, l4] r (σ, sz, k, c)) ∧
  (∀ (n : Nat) (l0 l1 l2 l3 l4 : Option Value)  (r : List Value) (σ : zk_S) (sz k c : Nat), zk_run E (zk_VT E) M_X11_solve (C_X11_solve E) P PX K (n + 1) 88 [l0, l1, l2, l3, l4] r (σ, sz, k, c) = zk_run E (zk_VT E) M_X11_solve (C_X11_solve E) P PX K n 90 [l0, l1, l2, l3, l4] (.int (268435456) :: r) (σ, sz, k, c)) ∧
  (∀ (n : Nat) (l1 l2 l3 l4 : Option Value) (y0 : Value) (r : List Value) (σ : zk_S) (sz k c : Nat), zk_run E (zk_VT E) M_X11_solve (C_X11_solve E) P PX K (n + 1) 90 [some y0, l1, l2, l3, l4] r (σ, sz, k, c) = (zk_isr y0 ∧ zk_run E (zk_VT E) M_X11_solve (C_X11_solve E) P PX K n 91 [some y0, l1, l2, l3, l4] (y0 :: r) (σ, sz, k, c))) ∧
  (∀ (n : Nat) (l1 l2 l3 l4 : Option Value) (y0 : Value) (r : List Value) (σ : zk_S) (sz k c : Nat), zk_run E (zk_VT E) M_X11_solve (C_X11_solve E) P PX K (n + 1) 91 [some y0, l1, l2, l3, l4] r (σ, sz, k, c) = (zk_isr y0 ∧ zk_run E (zk_VT E) M_X11_solve (C_X11_solve E) P PX K n 92 [some y0, l1, l2, l3, l4] (y0 :: r) (σ, sz, k, c))) ∧
  (∀ (n : Nat) (l0 l1 l2 l4 : Option Value) (y3 : Int32) (r : List Value) (σ : zk_S) (sz k c : Nat), zk_run E (zk_VT E) M_X11_solve (C_X11_solve E) P PX K (n + 1) 92 [l0, l1, l2, some (.int y3), l4] r (σ, sz, k, c) = zk_run E (zk_VT E) M_X11_solve (C_X11_solve E) P PX K n 93 [l0, l1, l2, some (.int y3), l4] (.int y3 :: r) (σ, sz, k, c)) ∧
  (∀ (n : Nat) (l0 l1 l2 l3 l4 : Option Value) (v0 : Value) (v1 : Value) (v2 : Value) (v3 : Value)  (σ : zk_S) (sz k c : Nat), zk_run E (zk_VT E) M_X11_solve (C_X11_solve E) P PX K (n + 1) 93 [l0, l1, l2, l3, l4] [v0, v1, v2, v3] (σ, sz, k, c) = (k + 0 ≤ 0 ∧ c + 0 ≤ 0 ∧ (zk_rv (zk_VT E) (fun ci => Nat.beq ci 10) (sp_X11_into E)) [v1, v0] σ sz (fun v s2 z2 => zk_run E (zk_VT E) M_X11_solve (C_X11_solve E) P PX K n 96 [l0, l1, l2, l3, l4] (zk_psh v [v2, v3]) (s2, z2, k + 0, c + 0)) (fun X s2 z2 => PX X s2 z2))) ∧
  (∀ (n : Nat) (l0 l1 l2 l4 : Option Value) (y3 : Int32) (r : List Value) (σ : zk_S) (sz k c : Nat), zk_run E (zk_VT E) M_X11_solve (C_X11_solve E) P PX K (n + 1) 96 [l0, l1, l2, some (.int y3), l4] r (σ, sz, k, c) = zk_run E (zk_VT E) M_X11_solve (C_X11_solve E) P PX K n 97 [l0, l1, l2, some (.int y3), l4] (.int y3 :: r) (σ, sz, k, c)) ∧
  (∀ (n : Nat) (l0 l1 l2 l3 l4 : Option Value)  (r : List Value) (σ : zk_S) (sz k c : Nat), zk_run E (zk_VT E) M_X11_solve (C_X11_solve E) P PX K (n + 1) 97 [l0, l1, l2, l3, l4] r (σ, sz, k, c) = zk_run E (zk_VT E) M_X11_solve (C_X11_solve E) P PX K n 98 [l0, l1, l2, l3, l4] (.int (2) :: r) (σ, sz, k, c)) ∧
  (∀ (n : Nat) (l0 l1 l2 l3 l4 : Option Value) (x y : Int32) (r : List Value) (σ : zk_S) (sz k c : Nat), zk_run E (zk_VT E) M_X11_solve (C_X11_solve E) P PX K (n + 1) 98 [l0, l1, l2, l3, l4] (.int y :: .int x :: r) (σ, sz, k, c) = (¬ y = 0 ∧ zk_run E (zk_VT E) M_X11_solve (C_X11_solve E) P PX K n 99 [l0, l1, l2, l3, l4] (.int (x / y) :: r) (σ, sz, k, c))) ∧
  (∀ (n : Nat) (l1 l2 l3 l4 : Option Value) (y0 : Value) (r : List Value) (σ : zk_S) (sz k c : Nat), zk_run E (zk_VT E) M_X11_solve (C_X11_solve E) P PX K (n + 1) 99 [some y0, l1, l2, l3, l4] r (σ, sz, k, c) = (zk_isr y0 ∧ zk_run E (zk_VT E) M_X11_solve (C_X11_solve E) P PX K n 100 [some y0, l1, l2, l3, l4] (y0 :: r) (σ, sz, k, c))) ∧
  (∀ (n : Nat) (l0 l1 l2 l4 : Option Value) (y3 : Int32) (r : List Value) (σ : zk_S) (sz k c : Nat), zk_run E (zk_VT E) M_X11_solve (C_X11_solve E) P PX K (n + 1) 100 [l0, l1, l2, some (.int y3), l4] r (σ, sz, k, c) = zk_run E (zk_VT E) M_X11_solve (C_X11_solve E) P PX K n 101 [l0, l1, l2, some (.int y3), l4] (.int y3 :: r) (σ, sz, k, c)) ∧
  (∀ (n : Nat) (l0 l1 l2 l3 l4 : Option Value) (v0 : Value) (v1 : Value) (v2 : Value) (v3 : Value) (v4 : Value) (v5 : Value)  (σ : zk_S) (sz k c : Nat), zk_run E (zk_VT E) M_X11_solve (C_X11_solve E) P PX K (n + 1) 101 [l0, l1, l2, l3, l4] [v0, v1, v2, v3, v4, v5] (σ, sz, k, c) = (k + 0 ≤ 0 ∧ c + 0 ≤ 0 ∧ (zk_rv (zk_VT E) (fun ci => Nat.beq ci 10) (sp_X11_pointX E)) [v1, v0] σ sz (fun v s2 z2 => zk_run E (zk_VT E) M_X11_solve (C_X11_solve E) P PX K n 104 [l0, l1, l2, l3, l4] (zk_psh v [v2, v3, v4, v5]) (s2, z2, k + 0, c + 0)) (fun X s2 z2 => PX X s2 z2))) ∧
  (∀ (n : Nat) (l1 l2 l3 l4 : Option Value) (y0 : Value) (r : List Value) (σ : zk_S) (sz k c : Nat), zk_run E (zk_VT E) M_X11_solve (C_X11_solve E) P PX K (n + 1) 104 [some y0, l1, l2, l3, l4] r (σ, sz, k, c) = (zk_isr y0 ∧ zk_run E (zk_VT E) M_X11_solve (C_X11_solve E) P PX K n 105 [some y0, l1, l2, l3, l4] (y0 :: r) (σ, sz, k, c))) ∧
  (∀ (n : Nat) (l0 l1 l2 l4 : Option Value) (y3 : Int32) (r : List Value) (σ : zk_S) (sz k c : Nat), zk_run E (zk_VT E) M_X11_solve (C_X11_solve E) P PX K (n + 1) 105 [l0, l1, l2, some (.int y3), l4] r (σ, sz, k, c) = zk_run E (zk_VT E) M_X11_solve (C_X11_solve E) P PX K n 106 [l0, l1, l2, some (.int y3), l4] (.int y3 :: r) (σ, sz, k, c)) ∧
  (∀ (n : Nat) (l0 l1 l2 l3 l4 : Option Value) (v0 : Value) (v1 : Value) (v2 : Int32) (v3 : Int32) (v4 : Int32) (v5 : Nat) (v6 : Int32)  (σ : zk_S) (sz k c : Nat), zk_run E (zk_VT E) M_X11_solve (C_X11_solve E) P PX K (n + 1) 106 [l0, l1, l2, l3, l4] [v0, v1, .int v2, .int v3, .int v4, .ref v5, .int v6] (σ, sz, k, c) = (k + 0 ≤ 0 ∧ c + 0 ≤ 0 ∧ (zk_rv (zk_VT E) (fun ci => Nat.beq ci 10) (sp_X11_pointY E)) [v1, v0] σ sz (fun v s2 z2 => zk_run E (zk_VT E) M_X11_solve (C_X11_solve E) P PX K n 109 [l0, l1, l2, l3, l4] (zk_psh v [.int v2, .int v3, .int v4, .ref v5, .int v6]) (s2, z2, k + 0, c + 0)) (fun X s2 z2 => PX X s2 z2))) ∧
  (∀ (n : Nat) (l0 l1 l2 l3 l4 : Option Value) (v0 : Value) (v1 : Value) (v2 : Value) (v3 : Value) (v4 : Value) (v5 : Value)  (σ : zk_S) (sz k c : Nat), zk_run E (zk_VT E) M_X11_solve (C_X11_solve E) P PX K (n + 1) 109 [l0, l1, l2, l3, l4] [v0, v1, v2, v3, v4, v5] (σ, sz, k, c) = (k + 0 ≤ 0 ∧ c + 0 ≤ 0 ∧ (zk_rv (zk_VT E) (fun ci => Nat.beq ci 10) (sp_X11_least E)) [v4, v3, v2, v1, v0] σ sz (fun v s2 z2 => zk_run E (zk_VT E) M_X11_solve (C_X11_solve E) P PX K n 112 [l0, l1, l2, l3, l4] (zk_psh v [v5]) (s2, z2, k + 0, c + 0)) (fun X s2 z2 => PX X s2 z2))) ∧
  (∀ (n : Nat) (l0 l1 l2 l4 : Option Value) (y3 : Int32) (r : List Value) (σ : zk_S) (sz k c : Nat), zk_run E (zk_VT E) M_X11_solve (C_X11_solve E) P PX K (n + 1) 112 [l0, l1, l2, some (.int y3), l4] r (σ, sz, k, c) = zk_run E (zk_VT E) M_X11_solve (C_X11_solve E) P PX K n 113 [l0, l1, l2, some (.int y3), l4] (.int y3 :: r) (σ, sz, k, c)) ∧
  (∀ (n : Nat) (l0 l1 l2 l3 l4 : Option Value)  (r : List Value) (σ : zk_S) (sz k c : Nat), zk_run E (zk_VT E) M_X11_solve (C_X11_solve E) P PX K (n + 1) 113 [l0, l1, l2, l3, l4] r (σ, sz, k, c) = zk_run E (zk_VT E) M_X11_solve (C_X11_solve E) P PX K n 114 [l0, l1, l2, l3, l4] (.int (2) :: r) (σ, sz, k, c)) ∧
  (∀ (n : Nat) (l0 l1 l2 l3 l4 : Option Value) (x y : Int32) (r : List Value) (σ : zk_S) (sz k c : Nat), zk_run E (zk_VT E) M_X11_solve (C_X11_solve E) P PX K (n + 1) 114 [l0, l1, l2, l3, l4] (.int y :: .int x :: r) (σ, sz, k, c) = (¬ y = 0 ∧ zk_run E (zk_VT E) M_X11_solve (C_X11_solve E) P PX K n 115 [l0, l1, l2, l3, l4] (.int (x / y) :: r) (σ, sz, k, c))) ∧
  (∀ (n : Nat) (l0 l1 l2 l3 l4 : Option Value)  (r : List Value) (σ : zk_S) (sz k c : Nat), zk_run E (zk_VT E) M_X11_solve (C_X11_solve E) P PX K (n + 1) 115 [l0, l1, l2, l3, l4] r (σ, sz, k, c) = zk_run E (zk_VT E) M_X11_solve (C_X11_solve E) P PX K n 117 [l0, l1, l2, l3, l4] (.int (40) :: r) (σ, sz, k, c)) ∧
  (∀ (n : Nat) (l0 l1 l2 l3 l4 : Option Value) (x y : Int32) (r : List Value) (σ : zk_S) (sz k c : Nat), zk_run E (zk_VT E) M_X11_solve (C_X11_solve E) P PX K (n + 1) 117 [l0, l1, l2, l3, l4] (.int y :: .int x :: r) (σ, sz, k, c) = ((y ≤ x → zk_run E (zk_VT E) M_X11_solve (C_X11_solve E) P PX K n 124 [l0, l1, l2, l3, l4] r (σ, sz, k, c)) ∧ (¬ (y ≤ x) → zk_run E (zk_VT E) M_X11_solve (C_X11_solve E) P PX K n 120 [l0, l1, l2, l3, l4] r (σ, sz, k, c)))) ∧
  (∀ (n : Nat) (l0 l1 l2 l3 l4 : Option Value)  (r : List Value) (σ : zk_S) (sz k c : Nat), zk_run E (zk_VT E) M_X11_solve (C_X11_solve E) P PX K (n + 1) 120 [l0, l1, l2, l3, l4] r (σ, sz, k, c) = zk_run E (zk_VT E) M_X11_solve (C_X11_solve E) P PX K n 121 [l0, l1, l2, l3, l4] (.int (0) :: r) (σ, sz, k, c)) ∧
  (∀ (n : Nat) (l0 l1 l2 l3 l4 : Option Value)  (r : List Value) (σ : zk_S) (sz k c : Nat), zk_run E (zk_VT E) M_X11_solve (C_X11_solve E) P PX K (n + 1) 121 [l0, l1, l2, l3, l4] r (σ, sz, k, c) = zk_run E (zk_VT E) M_X11_solve (C_X11_solve E) P PX K n 126 [l0, l1, l2, l3, l4] r (σ, sz, k, c)) ∧
  (∀ (n : Nat) (l0 l1 l2 l3 l4 : Option Value)  (r : List Value) (σ : zk_S) (sz k c : Nat), zk_run E (zk_VT E) M_X11_solve (C_X11_solve E) P PX K (n + 1) 124 [l0, l1, l2, l3, l4] r (σ, sz, k, c) = zk_run E (zk_VT E) M_X11_solve (C_X11_solve E) P PX K n 126 [l0, l1, l2, l3, l4] (.int (20) :: r) (σ, sz, k, c)) ∧
  (∀ (n : Nat) (l0 l1 l2 l3 l4 : Option Value) (x y : Int32) (r : List Value) (σ : zk_S) (sz k c : Nat), zk_run E (zk_VT E) M_X11_solve (C_X11_solve E) P PX K (n + 1) 126 [l0, l1, l2, l3, l4] (.int y :: .int x :: r) (σ, sz, k, c) = zk_run E (zk_VT E) M_X11_solve (C_X11_solve E) P PX K n 127 [l0, l1, l2, l3, l4] (.int (x + y) :: r) (σ, sz, k, c)) ∧
  (∀ (n : Nat) (l0 l1 l2 l3 l4 : Option Value) (x y : Int32)  (σ : zk_S) (sz k c : Nat), zk_run E (zk_VT E) M_X11_solve (C_X11_solve E) P PX K (n + 1) 127 [l0, l1, l2, l3, l4] (.int y :: .int x :: []) (σ, sz, k, c) = (([] : List Value).length ≤ 4 ∧ k ≤ 0 ∧ c ≤ 0 ∧ zk_run E (zk_VT E) M_X11_solve (C_X11_solve E) P PX K n 130 [l0, l1, l2, l3, l4] (.int (i_min x y) :: []) (σ, sz, k, c))) ∧
  (∀ (n : Nat) (l0 l1 l2 l3 l4 : Option Value) (x : Int32) (r : List Value) (σ : zk_S) (sz k c : Nat), zk_run E (zk_VT E) M_X11_solve (C_X11_solve E) P PX K (n + 1) 130 [l0, l1, l2, l3, l4] (.int x :: r) (σ, sz, k, c) = zk_run E (zk_VT E) M_X11_solve (C_X11_solve E) P PX K n 132 [l0, l1, l2, zk_kl l3, some (.int x)] r (σ, sz, k, c)) ∧
  (∀ (n : Nat) (l0 l2 l3 l4 : Option Value) (y1 : Int32) (r : List Value) (σ : zk_S) (sz k c : Nat), zk_run E (zk_VT E) M_X11_solve (C_X11_solve E) P PX K (n + 1) 132 [l0, some (.int y1), l2, l3, l4] r (σ, sz, k, c) = zk_run E (zk_VT E) M_X11_solve (C_X11_solve E) P PX K n 133 [l0, some (.int y1), l2, l3, l4] (.int y1 :: r) (σ, sz, k, c)) ∧
  (∀ (n : Nat) (l0 l1 l2 l3 : Option Value) (y4 : Int32) (r : List Value) (σ : zk_S) (sz k c : Nat), zk_run E (zk_VT E) M_X11_solve (C_X11_solve E) P PX K (n + 1) 133 [l0, l1, l2, l3, some (.int y4)] r (σ, sz, k, c) = zk_run E (zk_VT E) M_X11_solve (C_X11_solve E) P PX K n 135 [l0, l1, l2, l3, some (.int y4)] (.int y4 :: r) (σ, sz, k, c)) ∧
  (∀ (n : Nat) (l1 l2 l3 l4 : Option Value) (y0 : Value) (r : List Value) (σ : zk_S) (sz k c : Nat), zk_run E (zk_VT E) M_X11_solve (C_X11_solve E) P PX K (n + 1) 135 [some y0, l1, l2, l3, l4] r (σ, sz, k, c) = (zk_isr y0 ∧ zk_run E (zk_VT E) M_X11_solve (C_X11_solve E) P PX K n 136 [some y0, l1, l2, l3, l4] (y0 :: r) (σ, sz, k, c))) := ⟨by intros; rfl, by intros; rfl, by intros; rfl, by intros; rfl, by intros; rfl, by intros; rfl, by intros; rfl, by intros; rfl, by intros; rfl, by intros; rfl, by intros; rfl, by intros; rfl, by intros; rfl, by intros; rfl, by intros; rfl, by intros; rfl, by intros; rfl, by intros; rfl, by intros; rfl, by intros; rfl, by intros; rfl, by intros; rfl, by intros; rfl, by intros; rfl, by intros; rfl, by intros; rfl, by intros; rfl, by intros; rfl, by intros; rfl, by intros; rfl, by intros; rfl, by intros; rfl, by intros; rfl, by intros; rfl, by intros; rfl, by intros; rfl, by intros; rfl, by intros; rfl, by intros; rfl, by intros; rfl⟩
theorem r_X11_solve_2 (E : zk_E) (P : zk_P zk_S) (PX : zk_X zk_S) (K : Nat → zk_L → List Value → zk_W zk_S → Prop) : (∀ (n : Nat) (l0 l1 l2 l3 l4 : Option Value) (a : Nat) (r : List Value) (σ : zk_S) (sz k c : Nat), zk_run E (zk_VT E) M_X11_solve (C_X11_solve E) P PX K (n + 1) 136 [l0, l1, l2, l3, l4] (.ref a :: r) (σ, sz, k, c) = zk_fld (zk_view E σ a) [10] 29 (fun v => zk_run E (zk_VT E) M_X11_solve (C_X11_solve E) P PX K n 139 [l0, l1, l2, l3, l4] (v :: r) (σ, sz, k, c))) ∧
  (∀ (n : Nat) (l0 l1 l2 l4 : Option Value) (y3 : Int32) (r : List Value) (σ : zk_S) (sz k c : Nat), zk_run E (zk_VT E) M_X11_solve (C_X11_solve E) P PX K (n + 1) 139 [l0, l1, l2, some (.int y3), l4] r (σ, sz, k, c) = zk_run E (zk_VT E) M_X11_solve (C_X11_solve E) P PX K n 140 [l0, l1, l2, some (.int y3), l4] (.int y3 :: r) (σ, sz, k, c)) ∧
  (∀ (n : Nat) (l0 l1 l2 l3 l4 : Option Value) (a : Nat) (i : Int32) (r : List Value) (σ : zk_S) (sz k c : Nat), zk_run E (zk_VT E) M_X11_solve (C_X11_solve E) P PX K (n + 1) 140 [l0, l1, l2, l3, l4] (.int i :: .ref a :: r) (σ, sz, k, c) = zk_ild (zk_view E σ a) (zk_ar E 0) i (fun x => zk_run E (zk_VT E) M_X11_solve (C_X11_solve E) P PX K n 141 [l0, l1, l2, l3, l4] (.int x :: r) (σ, sz, k, c))) ∧
  (∀ (n : Nat) (l0 l1 l2 l3 l4 : Option Value) (x y : Int32) (r : List Value) (σ : zk_S) (sz k c : Nat), zk_run E (zk_VT E) M_X11_solve (C_X11_solve E) P PX K (n + 1) 141 [l0, l1, l2, l3, l4] (.int y :: .int x :: r) (σ, sz, k, c) = ((y ≤ x → zk_run E (zk_VT E) M_X11_solve (C_X11_solve E) P PX K n 148 [l0, l1, l2, l3, l4] r (σ, sz, k, c)) ∧ (¬ (y ≤ x) → zk_run E (zk_VT E) M_X11_solve (C_X11_solve E) P PX K n 144 [l0, l1, l2, l3, l4] r (σ, sz, k, c)))) ∧
  (∀ (n : Nat) (l0 l1 l2 l3 l4 : Option Value)  (r : List Value) (σ : zk_S) (sz k c : Nat), zk_run E (zk_VT E) M_X11_solve (C_X11_solve E) P PX K (n + 1) 144 [l0, l1, l2, l3, l4] r (σ, sz, k, c) = zk_run E (zk_VT E) M_X11_solve (C_X11_solve E) P PX K n 145 [l0, l1, l2, l3, l4] (.int (1) :: r) (σ, sz, k, c)) ∧
  (∀ (n : Nat) (l0 l1 l2 l3 l4 : Option Value)  (r : List Value) (σ : zk_S) (sz k c : Nat), zk_run E (zk_VT E) M_X11_solve (C_X11_solve E) P PX K (n + 1) 145 [l0, l1, l2, l3, l4] r (σ, sz, k, c) = zk_run E (zk_VT E) M_X11_solve (C_X11_solve E) P PX K n 149 [l0, l1, l2, l3, l4] r (σ, sz, k, c)) ∧
  (∀ (n : Nat) (l0 l1 l2 l3 l4 : Option Value)  (r : List Value) (σ : zk_S) (sz k c : Nat), zk_run E (zk_VT E) M_X11_solve (C_X11_solve E) P PX K (n + 1) 148 [l0, l1, l2, l3, l4] r (σ, sz, k, c) = zk_run E (zk_VT E) M_X11_solve (C_X11_solve E) P PX K n 149 [l0, l1, l2, l3, l4] (.int (0) :: r) (σ, sz, k, c)) ∧
  (∀ (n : Nat) (l0 l1 l2 l3 l4 : Option Value) (x y : Int32) (r : List Value) (σ : zk_S) (sz k c : Nat), zk_run E (zk_VT E) M_X11_solve (C_X11_solve E) P PX K (n + 1) 149 [l0, l1, l2, l3, l4] (.int y :: .int x :: r) (σ, sz, k, c) = zk_run E (zk_VT E) M_X11_solve (C_X11_solve E) P PX K n 150 [l0, l1, l2, l3, l4] (.int (x ||| y) :: r) (σ, sz, k, c)) ∧
  (∀ (n : Nat) (l0 l1 l2 l3 l4 : Option Value) (x : Int32) (r : List Value) (σ : zk_S) (sz k c : Nat), zk_run E (zk_VT E) M_X11_solve (C_X11_solve E) P PX K (n + 1) 150 [l0, l1, l2, l3, l4] (.int x :: r) (σ, sz, k, c) = zk_run E (zk_VT E) M_X11_solve (C_X11_solve E) P PX K n 151 [zk_kl l0, some (.int x), l2, l3, l4] r (σ, sz, k, c)) ∧
  (∀ (n : Nat) (l1 l2 l3 l4 : Option Value) (y0 : Value) (r : List Value) (σ : zk_S) (sz k c : Nat), zk_run E (zk_VT E) M_X11_solve (C_X11_solve E) P PX K (n + 1) 151 [some y0, l1, l2, l3, l4] r (σ, sz, k, c) = (zk_isr y0 ∧ zk_run E (zk_VT E) M_X11_solve (C_X11_solve E) P PX K n 152 [some y0, l1, l2, l3, l4] (y0 :: r) (σ, sz, k, c))) ∧
  (∀ (n : Nat) (l0 l1 l2 l3 l4 : Option Value) (a : Nat) (r : List Value) (σ : zk_S) (sz k c : Nat), zk_run E (zk_VT E) M_X11_solve (C_X11_solve E) P PX K (n + 1) 152 [l0, l1, l2, l3, l4] (.ref a :: r) (σ, sz, k, c) = zk_fld (zk_view E σ a) [10] 29 (fun v => zk_run E (zk_VT E) M_X11_solve (C_X11_solve E) P PX K n 155 [l0, l1, l2, l3, l4] (v :: r) (σ, sz, k, c))) ∧
  (∀ (n : Nat) (l0 l1 l2 l4 : Option Value) (y3 : Int32) (r : List Value) (σ : zk_S) (sz k c : Nat), zk_run E (zk_VT E) M_X11_solve (C_X11_solve E) P PX K (n + 1) 155 [l0, l1, l2, some (.int y3), l4] r (σ, sz, k, c) = zk_run E (zk_VT E) M_X11_solve (C_X11_solve E) P PX K n 156 [l0, l1, l2, some (.int y3), l4] (.int y3 :: r) (σ, sz, k, c)) ∧
  (∀ (n : Nat) (l1 l2 l3 l4 : Option Value) (y0 : Value) (r : List Value) (σ : zk_S) (sz k c : Nat), zk_run E (zk_VT E) M_X11_solve (C_X11_solve E) P PX K (n + 1) 156 [some y0, l1, l2, l3, l4] r (σ, sz, k, c) = (zk_isr y0 ∧ zk_run E (zk_VT E) M_X11_solve (C_X11_solve E) P PX K n 157 [some y0, l1, l2, l3, l4] (y0 :: r) (σ, sz, k, c))) ∧
  (∀ (n : Nat) (l0 l1 l2 l3 l4 : Option Value) (a : Nat) (r : List Value) (σ : zk_S) (sz k c : Nat), zk_run E (zk_VT E) M_X11_solve (C_X11_solve E) P PX K (n + 1) 157 [l0, l1, l2, l3, l4] (.ref a :: r) (σ, sz, k, c) = zk_fld (zk_view E σ a) [10] 29 (fun v => zk_run E (zk_VT E) M_X11_solve (C_X11_solve E) P PX K n 160 [l0, l1, l2, l3, l4] (v :: r) (σ, sz, k, c))) ∧
  (∀ (n : Nat) (l0 l1 l2 l4 : Option Value) (y3 : Int32) (r : List Value) (σ : zk_S) (sz k c : Nat), zk_run E (zk_VT E) M_X11_solve (C_X11_solve E) P PX K (n + 1) 160 [l0, l1, l2, some (.int y3), l4] r (σ, sz, k, c) = zk_run E (zk_VT E) M_X11_solve (C_X11_solve E) P PX K n 161 [l0, l1, l2, some (.int y3), l4] (.int y3 :: r) (σ, sz, k, c)) ∧
  (∀ (n : Nat) (l0 l1 l2 l3 l4 : Option Value) (a : Nat) (i : Int32) (r : List Value) (σ : zk_S) (sz k c : Nat), zk_run E (zk_VT E) M_X11_solve (C_X11_solve E) P PX K (n + 1) 161 [l0, l1, l2, l3, l4] (.int i :: .ref a :: r) (σ, sz, k, c) = zk_ild (zk_view E σ a) (zk_ar E 0) i (fun x => zk_run E (zk_VT E) M_X11_solve (C_X11_solve E) P PX K n 162 [l0, l1, l2, l3, l4] (.int x :: r) (σ, sz, k, c))) ∧
  (∀ (n : Nat) (l0 l1 l2 l3 : Option Value) (y4 : Int32) (r : List Value) (σ : zk_S) (sz k c : Nat), zk_run E (zk_VT E) M_X11_solve (C_X11_solve E) P PX K (n + 1) 162 [l0, l1, l2, l3, some (.int y4)] r (σ, sz, k, c) = zk_run E (zk_VT E) M_X11_solve (C_X11_solve E) P PX K n 164 [l0, l1, l2, l3, some (.int y4)] (.int y4 :: r) (σ, sz, k, c)) ∧
  (∀ (n : Nat) (l0 l1 l2 l3 l4 : Option Value) (x y : Int32) (v0 : Value) (v1 : Value)  (σ : zk_S) (sz k c : Nat), zk_run E (zk_VT E) M_X11_solve (C_X11_solve E) P PX K (n + 1) 164 [l0, l1, l2, l3, l4] (.int y :: .int x :: [v0, v1]) (σ, sz, k, c) = (([v0, v1] : List Value).length ≤ 4 ∧ k ≤ 0 ∧ c ≤ 0 ∧ zk_run E (zk_VT E) M_X11_solve (C_X11_solve E) P PX K n 167 [l0, l1, l2, l3, l4] (.int (i_min x y) :: [v0, v1]) (σ, sz, k, c))) ∧
  (∀ (n : Nat) (l0 l1 l2 l3 l4 : Option Value) (a : Nat) (i x : Int32) (r : List Value) (σ : zk_S) (sz k c : Nat), zk_run E (zk_VT E) M_X11_solve (C_X11_solve E) P PX K (n + 1) 167 [l0, l1, l2, l3, l4] (.int x :: .int i :: .ref a :: r) (σ, sz, k, c) = zk_ist (zk_view E σ a) (zk_ar E 0) i x (fun e => zk_wrok E σ a e ∧ zk_run E (zk_VT E) M_X11_solve (C_X11_solve E) P PX K n 168 [l0, l1, l2, l3, l4] r (zk_wr E σ a e, sz, k, c))) ∧
  (∀ (n : Nat) (l0 l1 l3 l4 : Option Value) (y2 : Int32) (r : List Value) (σ : zk_S) (sz k c : Nat), zk_run E (zk_VT E) M_X11_solve (C_X11_solve E) P PX K (n + 1) 168 [l0, l1, some (.int y2), l3, l4] r (σ, sz, k, c) = zk_run E (zk_VT E) M_X11_solve (C_X11_solve E) P PX K n 171 [l0, zk_kl l1, some (.int (y2 + 1)), l3, l4] r (σ, sz, k, c)) ∧
  (∀ (n : Nat) (l0 l1 l2 l3 l4 : Option Value)  (r : List Value) (σ : zk_S) (sz k c : Nat), zk_run E (zk_VT E) M_X11_solve (C_X11_solve E) P PX K (n + 1) 171 [l0, l1, l2, l3, l4] r (σ, sz, k, c) = zk_run E (zk_VT E) M_X11_solve (C_X11_solve E) P PX K n 61 [l0, l1, l2, l3, l4] r (σ, sz, k, c)) ∧
  (∀ (n : Nat) (l0 l1 l2 l3 l4 : Option Value)  (r : List Value) (σ : zk_S) (sz k c : Nat), zk_run E (zk_VT E) M_X11_solve (C_X11_solve E) P PX K (n + 1) 174 [l0, l1, l2, l3, l4] r (σ, sz, k, c) = zk_run E (zk_VT E) M_X11_solve (C_X11_solve E) P PX K n 53 [l0, l1, l2, l3, l4] r (σ, sz, k, c)) ∧
  (∀ (n : Nat) (l0 l1 l2 l3 l4 : Option Value)  (r : List Value) (σ : zk_S) (sz k c : Nat), zk_run E (zk_VT E) M_X11_solve (C_X11_solve E) P PX K (n + 1) 177 [l0, l1, l2, l3, l4] r (σ, sz, k, c) = zk_run E (zk_VT E) M_X11_solve (C_X11_solve E) P PX K n 178 [l0, l1, l2, l3, l4] (.int (0) :: r) (σ, sz, k, c)) ∧
  (∀ (n : Nat) (l0 l1 l2 l3 l4 : Option Value) (x : Int32) (r : List Value) (σ : zk_S) (sz k c : Nat), zk_run E (zk_VT E) M_X11_solve (C_X11_solve E) P PX K (n + 1) 178 [l0, l1, l2, l3, l4] (.int x :: r) (σ, sz, k, c) = zk_run E (zk_VT E) M_X11_solve (C_X11_solve E) P PX K n 179 [l0, zk_kl l1, some (.int x), l3, l4] r (σ, sz, k, c)) ∧
  (∀ (n : Nat) (l0 l1 l2 l3 l4 : Option Value)  (r : List Value) (σ : zk_S) (sz k c : Nat), zk_run E (zk_VT E) M_X11_solve (C_X11_solve E) P PX K (n + 1) 179 [l0, l1, l2, l3, l4] r (σ, sz, k, c) = K 179 [l0, l1, l2, l3, l4] r (σ, sz, k, c)) ∧
  (∀ (n : Nat) (l1 l2 l3 l4 : Option Value) (y0 : Value) (r : List Value) (σ : zk_S) (sz k c : Nat), zk_run E (zk_VT E) M_X11_solve (C_X11_solve E) P PX K (n + 1) 180 [some y0, l1, l2, l3, l4] r (σ, sz, k, c) = (zk_isr y0 ∧ zk_run E (zk_VT E) M_X11_solve (C_X11_solve E) P PX K n 181 [some y0, l1, l2, l3, l4] (y0 :: r) (σ, sz, k, c))) ∧
  (∀ (n : Nat) (l0 l1 l2 l3 l4 : Option Value) (a : Nat) (r : List Value) (σ : zk_S) (sz k c : Nat), zk_run E (zk_VT E) M_X11_solve (C_X11_solve E) P PX K (n + 1) 181 [l0, l1, l2, l3, l4] (.ref a :: r) (σ, sz, k, c) = zk_fld (zk_view E σ a) [10] 1 (fun v => zk_run E (zk_VT E) M_X11_solve (C_X11_solve E) P PX K n 184 [l0, l1, l2, l3, l4] (v :: r) (σ, sz, k, c))) ∧
  (∀ (n : Nat) (l0 l1 l2 l3 l4 : Option Value) (x y : Int32) (r : List Value) (σ : zk_S) (sz k c : Nat), zk_run E (zk_VT E) M_X11_solve (C_X11_solve E) P PX K (n + 1) 184 [l0, l1, l2, l3, l4] (.int y :: .int x :: r) (σ, sz, k, c) = ((y ≤ x → zk_run E (zk_VT E) M_X11_solve (C_X11_solve E) P PX K n 198 [l0, l1, l2, l3, l4] r (σ, sz, k, c)) ∧ (¬ (y ≤ x) → zk_run E (zk_VT E) M_X11_solve (C_X11_solve E) P PX K n 187 [l0, l1, l2, l3, l4] r (σ, sz, k, c)))) ∧
  (∀ (n : Nat) (l1 l2 l3 l4 : Option Value) (y0 : Value) (r : List Value) (σ : zk_S) (sz k c : Nat), zk_run E (zk_VT E) M_X11_solve (C_X11_solve E) P PX K (n + 1) 187 [some y0, l1, l2, l3, l4] r (σ, sz, k, c) = (zk_isr y0 ∧ zk_run E (zk_VT E) M_X11_solve (C_X11_solve E) P PX K n 188 [some y0, l1, l2, l3, l4] (y0 :: r) (σ, sz, k, c))) ∧
  (∀ (n : Nat) (l0 l1 l3 l4 : Option Value) (y2 : Int32) (r : List Value) (σ : zk_S) (sz k c : Nat), zk_run E (zk_VT E) M_X11_solve (C_X11_solve E) P PX K (n + 1) 188 [l0, l1, some (.int y2), l3, l4] r (σ, sz, k, c) = zk_run E (zk_VT E) M_X11_solve (C_X11_solve E) P PX K n 189 [l0, l1, some (.int y2), l3, l4] (.int y2 :: r) (σ, sz, k, c)) ∧
  (∀ (n : Nat) (l0 l1 l2 l3 l4 : Option Value) (v0 : Value) (v1 : Value)  (σ : zk_S) (sz k c : Nat), zk_run E (zk_VT E) M_X11_solve (C_X11_solve E) P PX K (n + 1) 189 [l0, l1, l2, l3, l4] [v0, v1] (σ, sz, k, c) = (k + 0 ≤ 0 ∧ c + 0 ≤ 0 ∧ (zk_rv (zk_VT E) (fun ci => Nat.beq ci 10) (sp_X11_leave E)) [v1, v0] σ sz (fun v s2 z2 => zk_run E (zk_VT E) M_X11_solve (C_X11_solve E) P PX K n 192 [l0, l1, l2, l3, l4] (zk_psh v []) (s2, z2, k + 0, c + 0)) (fun X s2 z2 => PX X s2 z2))) ∧
  (∀ (n : Nat) (l0 l1 l3 l4 : Option Value) (y2 : Int32) (r : List Value) (σ : zk_S) (sz k c : Nat), zk_run E (zk_VT E) M_X11_solve (C_X11_solve E) P PX K (n + 1) 192 [l0, l1, some (.int y2), l3, l4] r (σ, sz, k, c) = zk_run E (zk_VT E) M_X11_solve (C_X11_solve E) P PX K n 195 [l0, zk_kl l1, some (.int (y2 + 1)), l3, l4] r (σ, sz, k, c)) ∧
  (∀ (n : Nat) (l0 l1 l2 l3 l4 : Option Value)  (r : List Value) (σ : zk_S) (sz k c : Nat), zk_run E (zk_VT E) M_X11_solve (C_X11_solve E) P PX K (n + 1) 195 [l0, l1, l2, l3, l4] r (σ, sz, k, c) = zk_run E (zk_VT E) M_X11_solve (C_X11_solve E) P PX K n 179 [l0, l1, l2, l3, l4] r (σ, sz, k, c)) ∧
  (∀ (n : Nat) (l0 l1 l2 l3 l4 : Option Value)  (r : List Value) (σ : zk_S) (sz k c : Nat), zk_run E (zk_VT E) M_X11_solve (C_X11_solve E) P PX K (n + 1) 198 [l0, l1, l2, l3, l4] r (σ, sz, k, c) = zk_run E (zk_VT E) M_X11_solve (C_X11_solve E) P PX K n 199 [l0, l1, l2, l3, l4] (.int (0) :: r) (σ, sz, k, c)) ∧
  (∀ (n : Nat) (l0 l1 l2 l3 l4 : Option Value) (x : Int32) (r : List Value) (σ : zk_S) (sz k c : Nat), zk_run E (zk_VT E) M_X11_solve (C_X11_solve E) P PX K (n + 1) 199 [l0, l1, l2, l3, l4] (.int x :: r) (σ, sz, k, c) = zk_run E (zk_VT E) M_X11_solve (C_X11_solve E) P PX K n 200 [l0, zk_kl l1, some (.int x), l3, l4] r (σ, sz, k, c)) ∧
  (∀ (n : Nat) (l0 l1 l2 l3 l4 : Option Value)  (r : List Value) (σ : zk_S) (sz k c : Nat), zk_run E (zk_VT E) M_X11_solve (C_X11_solve E) P PX K (n + 1) 200 [l0, l1, l2, l3, l4] r (σ, sz, k, c) = K 200 [l0, l1, l2, l3, l4] r (σ, sz, k, c)) ∧
  (∀ (n : Nat) (l1 l2 l3 l4 : Option Value) (y0 : Value) (r : List Value) (σ : zk_S) (sz k c : Nat), zk_run E (zk_VT E) M_X11_solve (C_X11_solve E) P PX K (n + 1) 201 [some y0, l1, l2, l3, l4] r (σ, sz, k, c) = (zk_isr y0 ∧ zk_run E (zk_VT E) M_X11_solve (C_X11_solve E) P PX K n 202 [some y0, l1, l2, l3, l4] (y0 :: r) (σ, sz, k, c))) ∧
  (∀ (n : Nat) (l0 l1 l2 l3 l4 : Option Value) (a : Nat) (r : List Value) (σ : zk_S) (sz k c : Nat), zk_run E (zk_VT E) M_X11_solve (C_X11_solve E) P PX K (n + 1) 202 [l0, l1, l2, l3, l4] (.ref a :: r) (σ, sz, k, c) = zk_fld (zk_view E σ a) [10] 1 (fun v => zk_run E (zk_VT E) M_X11_solve (C_X11_solve E) P PX K n 205 [l0, l1, l2, l3, l4] (v :: r) (σ, sz, k, c))) ∧
  (∀ (n : Nat) (l0 l1 l2 l3 l4 : Option Value) (x y : Int32) (r : List Value) (σ : zk_S) (sz k c : Nat), zk_run E (zk_VT E) M_X11_solve (C_X11_solve E) P PX K (n + 1) 205 [l0, l1, l2, l3, l4] (.int y :: .int x :: r) (σ, sz, k, c) = ((y ≤ x → zk_run E (zk_VT E) M_X11_solve (C_X11_solve E) P PX K n 225 [l0, l1, l2, l3, l4] r (σ, sz, k, c)) ∧ (¬ (y ≤ x) → zk_run E (zk_VT E) M_X11_solve (C_X11_solve E) P PX K n 208 [l0, l1, l2, l3, l4] r (σ, sz, k, c)))) ∧
  (∀ (n : Nat) (l1 l2 l3 l4 : Option Value) (y0 : Value) (r : List Value) (σ : zk_S) (sz k c : Nat), zk_run E (zk_VT E) M_X11_solve (C_X11_solve E) P PX K (n + 1) 208 [some y0, l1, l2, l3, l4] r (σ, sz, k, c) = (zk_isr y0 ∧ zk_run E (zk_VT E) M_X11_solve (C_X11_solve E) P PX K n 209 [some y0, l1, l2, l3, l4] (y0 :: r) (σ, sz, k, c))) := ⟨by intros; rfl, by intros; rfl, by intros; rfl, by intros; rfl, by intros; rfl, by intros; rfl, by intros; rfl, by intros; rfl, by intros; rfl, by intros; rfl, by intros; rfl, by intros; rfl, by intros; rfl, by intros; rfl, by intros; rfl, by intros; rfl, by intros; rfl, by intros; rfl, by intros; rfl, by intros; rfl, by intros; rfl, by intros; rfl, by intros; rfl, by intros; rfl, by intros; rfl, by intros; rfl, by intros; rfl, by intros; rfl, by intros; rfl, by intros; rfl, by intros; rfl, by intros; rfl, by intros; rfl, by intros; rfl, by intros; rfl, by intros; rfl, by intros; rfl, by intros; rfl, by intros; rfl, by intros; rfl⟩
theorem r_X11_solve_3 (E : zk_E) (P : zk_P zk_S) (PX : zk_X zk_S) (K : Nat → zk_L → List Value → zk_W zk_S → Prop) : (∀ (n : Nat) (l0 l1 l2 l3 l4 : Option Value) (a : Nat) (r : List Value) (σ : zk_S) (sz k c : Nat), zk_run E (zk_VT E) M_X11_solve (C_X11_solve E) P PX K (n + 1) 209 [l0, l1, l2, l3, l4] (.ref a :: r) (σ, sz, k, c) = zk_fld (zk_view E σ a) [10] 32 (fun v => zk_run E (zk_VT E) M_X11_solve (C_X11_solve E) P PX K n 212 [l0, l1, l2, l3, l4] (v :: r) (σ, sz, k, c))) ∧
  (∀ (n : Nat) (l0 l1 l3 l4 : Option Value) (y2 : Int32) (r : List Value) (σ : zk_S) (sz k c : Nat), zk_run E (zk_VT E) M_X11_solve (C_X11_solve E) P PX K (n + 1) 212 [l0, l1, some (.int y2), l3, l4] r (σ, sz, k, c) = zk_run E (zk_VT E) M_X11_solve (C_X11_solve E) P PX K n 213 [l0, l1, some (.int y2), l3, l4] (.int y2 :: r) (σ, sz, k, c)) ∧
  (∀ (n : Nat) (l1 l2 l3 l4 : Option Value) (y0 : Value) (r : List Value) (σ : zk_S) (sz k c : Nat), zk_run E (zk_VT E) M_X11_solve (C_X11_solve E) P PX K (n + 1) 213 [some y0, l1, l2, l3, l4] r (σ, sz, k, c) = (zk_isr y0 ∧ zk_run E (zk_VT E) M_X11_solve (C_X11_solve E) P PX K n 214 [some y0, l1, l2, l3, l4] (y0 :: r) (σ, sz, k, c))) ∧
  (∀ (n : Nat) (l0 l1 l3 l4 : Option Value) (y2 : Int32) (r : List Value) (σ : zk_S) (sz k c : Nat), zk_run E (zk_VT E) M_X11_solve (C_X11_solve E) P PX K (n + 1) 214 [l0, l1, some (.int y2), l3, l4] r (σ, sz, k, c) = zk_run E (zk_VT E) M_X11_solve (C_X11_solve E) P PX K n 215 [l0, l1, some (.int y2), l3, l4] (.int y2 :: r) (σ, sz, k, c)) ∧
  (∀ (n : Nat) (l0 l1 l2 l3 l4 : Option Value) (v0 : Value) (v1 : Value) (v2 : Value) (v3 : Value)  (σ : zk_S) (sz k c : Nat), zk_run E (zk_VT E) M_X11_solve (C_X11_solve E) P PX K (n + 1) 215 [l0, l1, l2, l3, l4] [v0, v1, v2, v3] (σ, sz, k, c) = (k + 0 ≤ 0 ∧ c + 0 ≤ 0 ∧ (zk_rv (zk_VT E) (fun ci => Nat.beq ci 10) (sp_X11_depthOf E)) [v1, v0] σ sz (fun v s2 z2 => zk_run E (zk_VT E) M_X11_solve (C_X11_solve E) P PX K n 218 [l0, l1, l2, l3, l4] (zk_psh v [v2, v3]) (s2, z2, k + 0, c + 0)) (fun X s2 z2 => PX X s2 z2))) ∧
  (∀ (n : Nat) (l0 l1 l2 l3 l4 : Option Value) (a : Nat) (i x : Int32) (r : List Value) (σ : zk_S) (sz k c : Nat), zk_run E (zk_VT E) M_X11_solve (C_X11_solve E) P PX K (n + 1) 218 [l0, l1, l2, l3, l4] (.int x :: .int i :: .ref a :: r) (σ, sz, k, c) = zk_ist (zk_view E σ a) (zk_ar E 0) i x (fun e => zk_wrok E σ a e ∧ zk_run E (zk_VT E) M_X11_solve (C_X11_solve E) P PX K n 219 [l0, l1, l2, l3, l4] r (zk_wr E σ a e, sz, k, c))) ∧
  (∀ (n : Nat) (l0 l1 l3 l4 : Option Value) (y2 : Int32) (r : List Value) (σ : zk_S) (sz k c : Nat), zk_run E (zk_VT E) M_X11_solve (C_X11_solve E) P PX K (n + 1) 219 [l0, l1, some (.int y2), l3, l4] r (σ, sz, k, c) = zk_run E (zk_VT E) M_X11_solve (C_X11_solve E) P PX K n 222 [l0, zk_kl l1, some (.int (y2 + 1)), l3, l4] r (σ, sz, k, c)) ∧
  (∀ (n : Nat) (l0 l1 l2 l3 l4 : Option Value)  (r : List Value) (σ : zk_S) (sz k c : Nat), zk_run E (zk_VT E) M_X11_solve (C_X11_solve E) P PX K (n + 1) 222 [l0, l1, l2, l3, l4] r (σ, sz, k, c) = zk_run E (zk_VT E) M_X11_solve (C_X11_solve E) P PX K n 200 [l0, l1, l2, l3, l4] r (σ, sz, k, c)) ∧
  (∀ (n : Nat) (l0 l1 l2 l3 l4 : Option Value)   (σ : zk_S) (sz k c : Nat), zk_run E (zk_VT E) M_X11_solve (C_X11_solve E) P PX K (n + 1) 225 [l0, l1, l2, l3, l4] [] (σ, sz, k, c) = (P none σ sz ∧ k ≤ 0 ∧ c ≤ 0)) ∧
  (∀ (n : Nat) (l0 l1 l2 l3 l4 : Option Value) (r : List Value) (w : zk_W zk_S), zk_go E (zk_VT E) M_X11_solve (C_X11_solve E) P PX K n 0 [l0, l1, l2, l3, l4] r w = zk_run E (zk_VT E) M_X11_solve (C_X11_solve E) P PX K (n + 1) 0 [l0, l1, l2, l3, l4] r w) ∧
  (∀ (n : Nat) (l0 l2 l3 l4 : Option Value) (y1 : Int32) (r : List Value) (σ : zk_S) (sz k c : Nat), zk_go E (zk_VT E) M_X11_solve (C_X11_solve E) P PX K n 6 [l0, some (.int y1), l2, l3, l4] r (σ, sz, k, c) = zk_run E (zk_VT E) M_X11_solve (C_X11_solve E) P PX K n 7 [l0, some (.int y1), l2, l3, l4] (.int y1 :: r) (σ, sz, k, c)) ∧
  (∀ (n : Nat) (l0 l2 l3 l4 : Option Value) (y1 : Int32) (r : List Value) (σ : zk_S) (sz k c : Nat), zk_go E (zk_VT E) M_X11_solve (C_X11_solve E) P PX K n 53 [l0, some (.int y1), l2, l3, l4] r (σ, sz, k, c) = zk_run E (zk_VT E) M_X11_solve (C_X11_solve E) P PX K n 54 [l0, some (.int y1), l2, l3, l4] (.int y1 :: r) (σ, sz, k, c)) ∧
  (∀ (n : Nat) (l0 l1 l3 l4 : Option Value) (y2 : Int32) (r : List Value) (σ : zk_S) (sz k c : Nat), zk_go E (zk_VT E) M_X11_solve (C_X11_solve E) P PX K n 61 [l0, l1, some (.int y2), l3, l4] r (σ, sz, k, c) = zk_run E (zk_VT E) M_X11_solve (C_X11_solve E) P PX K n 62 [l0, l1, some (.int y2), l3, l4] (.int y2 :: r) (σ, sz, k, c)) ∧
  (∀ (n : Nat) (l0 l1 l3 l4 : Option Value) (y2 : Int32) (r : List Value) (σ : zk_S) (sz k c : Nat), zk_go E (zk_VT E) M_X11_solve (C_X11_solve E) P PX K n 179 [l0, l1, some (.int y2), l3, l4] r (σ, sz, k, c) = zk_run E (zk_VT E) M_X11_solve (C_X11_solve E) P PX K n 180 [l0, l1, some (.int y2), l3, l4] (.int y2 :: r) (σ, sz, k, c)) ∧
  (∀ (n : Nat) (l0 l1 l3 l4 : Option Value) (y2 : Int32) (r : List Value) (σ : zk_S) (sz k c : Nat), zk_go E (zk_VT E) M_X11_solve (C_X11_solve E) P PX K n 200 [l0, l1, some (.int y2), l3, l4] r (σ, sz, k, c) = zk_run E (zk_VT E) M_X11_solve (C_X11_solve E) P PX K n 201 [l0, l1, some (.int y2), l3, l4] (.int y2 :: r) (σ, sz, k, c)) := ⟨by intros; rfl, by intros; rfl, by intros; rfl, by intros; rfl, by intros; rfl, by intros; rfl, by intros; rfl, by intros; rfl, by intros; rfl, by intros; rfl, by intros; rfl, by intros; rfl, by intros; rfl, by intros; rfl, by intros; rfl⟩
theorem vc_X11_solve (E : zk_E) : zk_VC E (zk_VT E) M_X11_solve (C_X11_solve E) 5 (sp_X11_solve E) := by
  intro av σ sz P PX h
  obtain ⟨J, N, Q, O, U⟩ := σ
  unfold sp_X11_solve at h
  split at h
  case h_2 => exact h.elim
  rename_i a0
  obtain ⟨rfl, h⟩ := h
  refine ⟨Nat.le_of_ble_eq_true rfl, fun G hG => ?_⟩
  change G 0 [some (.ref (zk_ad E 22)), none, none, none, none] [] ((J, N, Q, O, U), sz, 0, 0)
  try dsimp only at h
  obtain ⟨hmi, h⟩ := h
  have hms := hmi.1
  have hlen : (m_act J N).length ≤ 100 := m_actN_len J N 100
  have hA : ∀ k (hk : k < (m_act J N).length), (m_act J N)[k] ∈ m_act J N := fun k hk => List.getElem_mem hk
  have o1 : (0 : Int32) ||| 1 = 1 ∧ (1 : Int32) ||| 1 = 1 ∧ (0 : Int32) ||| 0 = 0 ∧ (1 : Int32) ||| 0 = 1 := by decide
  have hINF : (268435456 : Int32) = nI INF := rfl
  have key : ∀ J1 N1, J1 = zk_uj J 22 35 (nI (m_act J N).length) → SE J J1 N N1 → RW J1 N1 (m_act J N) → G 6 [some (.ref (zk_ad E 22)), some (.int 0), none, none, none] [] ((J1, N1, Q, O, U), sz, 0, 0) := by
    intro J1 N1 hJ1 hse hrw
    obtain ⟨hm, -, hrow⟩ := id hrw
    have es1 := hse.es
    have hms1 := es1.ms hms
    have hnr20 := hms.1.2
    have hnr : J1 22 1 = nI (m_nr J) := es1.1.trans hms.1.1
    have tail : ∀ A (l1 : Int32) l3 l4, (∀ e ∈ m_act J N, A e = nI (LL J N e)) → G 179 [some (.ref (zk_ad E 22)), some (.int l1), some (.int 0), l3, l4] [] ((J1, zk_un N1 47 A, Q, O, U), sz, 0, 0) := by
      intro A l1 l3 l4 hAL
      have hse2 : SE J J1 N (zk_un N1 47 A) := hse.un (by decide)
      have hrw2 : RW J1 (zk_un N1 47 A) (m_act J N) := hrw
      have hA47 : ∀ e ∈ m_act J N, (zk_un N1 47 A) 47 e = nI (LL J N e) := hAL
      generalize zk_un N1 47 A = N2 at hse2 hrw2 hA47 ⊢
      have hse3 : ∀ B C, SE J J1 N (zk_un (zk_un N2 48 B) 49 C) := fun B C => (hse2.un (by decide)).un (by decide)
      have deep : ∀ N3, SE J J1 N N3 → RW J1 N3 (m_act J N) → (∀ e ∈ m_act J N, N3 47 e = nI (LL J N e)) → (∀ q, q < m_nr J → N3 48 q = g_lv (lea J N q) ∧ N3 49 q = nI (BB J N q).1) →
          ∀ m r D, r + m = m_nr J → (∀ q, q < r → D q = g_deep J N q) → G 200 [some (.ref (zk_ad E 22)), some (.int l1), some (.int (nI r)), l3, l4] [] ((J1, zk_un N3 50 D, Q, O, U), sz, 0, 0) := by
        intro N3 s1 s2 s3 s4 m
        induction m with
        | zero =>
          intro r D hr hD
          have c1 : nI (m_nr J) ≤ nI r := nI_le (by omega) (by omega)
          (refine hG 900 _ _ _ _ ?_; simp only [r_X11_solve, r_X11_solve_1, r_X11_solve_2, r_X11_solve_3, zk_kl_none, zk_kl_int, zk_kl_ref, zk_kl_null, zk_kl_long, zk_kl_rf, zk_isr_ref, zk_isr_null, zk_isr_rf9, zk_c1_int, zk_c1_ref, zk_c1_null, zk_c1_rf, zk_psh_some, zk_psh_none, zk_nok_int, zk_nok_bool0, zk_nok_bool1, zk_nok_b, zk_fok_0, zk_fok_1, zk_fok_2, zk_fok_n, zk_fok_rf, zb_f, zb_p, zb_i, zb_a, zb_s, zk_nth_0, zk_nth_s, zk_fld_o, zk_put_o, zk_rv_eq, zk_ri_eq, zk_is_o, List.mem_cons, List.not_mem_nil, or_false, false_or, or_true, true_or, and_true, true_and, not_false_iff, not_true_eq_false, true_implies, false_implies, imp_self, implies_true, forall_const, zk_lit, zk_uj_ap, zk_un_ap, zk_un_un, zk_uj_uj, Nat.reduceEqDiff, eq_self, zk_bq, Bool.true_or, Bool.false_or, Nat.le_refl, Nat.zero_add, Nat.add_zero, Nat.reduceAdd, Nat.reduceLeDiff, Nat.le_zero_eq, and_self, and_false, false_and, ite_true, ite_false, Nat.zero_le, List.length_cons, List.length_nil, Option.some.injEq, forall_eq', reduceCtorEq, hnr, c1])
          exact h _ _ ⟨hJ1, s1.un (by decide), s2, s3, fun j hj => ⟨(s4 j hj).1, (s4 j hj).2, hD j (by omega)⟩⟩
        | succ m ih =>
          intro r D hr hD
          have c1 : ¬ nI (m_nr J) ≤ nI r := nI_ge (by omega) (by omega)
          have hr20 : r < 20 := by omega
          have hin : vp_in (nI r) 20 := n_in hr20 (by decide)
          have hcl : (nI r).toNatClampNeg = r := n_cl (by omega)
          have s5 : SE J J1 N (zk_un N3 50 D) := s1.un (by decide)
          have f1 : MI J1 (zk_un N3 50 D) := s5.es.mi hmi
          have f2 : LW J1 (zk_un N3 50 D) := fun q hq => by rw [s5.es.lea]; exact (s4 q (by rw [s5.es.nr] at hq; exact hq)).1
          have f3 : ∃ j, j < m_nr J1 ∧ nI r = nI j := ⟨r, by rw [es1.nr]; omega, rfl⟩
          have f4 : g_deep J1 (zk_un N3 50 D) r = g_deep J N r := by rw [s5.es.deep]
          have ih2 := ih (r + 1) (upd D r (g_deep J N r)) (by omega) (fun q hq => by
            by_cases e : q = r
            · rw [e, upd_self]
            · rw [upd_ne _ _ e]; exact hD q (by omega))
          (refine hG 900 _ _ _ _ ?_; simp only [r_X11_solve, r_X11_solve_1, r_X11_solve_2, r_X11_solve_3, zk_kl_none, zk_kl_int, zk_kl_ref, zk_kl_null, zk_kl_long, zk_kl_rf, zk_isr_ref, zk_isr_null, zk_isr_rf9, zk_c1_int, zk_c1_ref, zk_c1_null, zk_c1_rf, zk_psh_some, zk_psh_none, zk_nok_int, zk_nok_bool0, zk_nok_bool1, zk_nok_b, zk_fok_0, zk_fok_1, zk_fok_2, zk_fok_n, zk_fok_rf, zb_f, zb_p, zb_i, zb_a, zb_s, zk_nth_0, zk_nth_s, zk_fld_o, zk_put_o, zk_rv_eq, zk_ri_eq, zk_is_o, List.mem_cons, List.not_mem_nil, or_false, false_or, or_true, true_or, and_true, true_and, not_false_iff, not_true_eq_false, true_implies, false_implies, imp_self, implies_true, forall_const, zk_lit, zk_uj_ap, zk_un_ap, zk_un_un, zk_uj_uj, Nat.reduceEqDiff, eq_self, zk_bq, Bool.true_or, Bool.false_or, Nat.le_refl, Nat.zero_add, Nat.add_zero, Nat.reduceAdd, Nat.reduceLeDiff, Nat.le_zero_eq, and_self, and_false, false_and, ite_true, ite_false, Nat.zero_le, List.length_cons, List.length_nil, Option.some.injEq, forall_eq', reduceCtorEq, hnr, c1, hin, hcl, spe_X11_depthOf, f1, f2, f3, f4, n_succ])
          exact ih2
      have leave : ∀ m r B C, r + m = m_nr J → (∀ q, q < r → B q = g_lv (lea J N q) ∧ C q = nI (BB J N q).1) → G 179 [some (.ref (zk_ad E 22)), some (.int l1), some (.int (nI r)), l3, l4] [] ((J1, zk_un (zk_un N2 48 B) 49 C, Q, O, U), sz, 0, 0) := by
        intro m
        induction m with
        | zero =>
          intro r B C hr hB
          have c1 : nI (m_nr J) ≤ nI r := nI_le (by omega) (by omega)
          have d0 := deep _ (hse3 B C) hrw2 hA47 (fun q hq => hB q (by omega)) (m_nr J) 0 ((zk_un (zk_un N2 48 B) 49 C) 50) (by omega) (fun q hq => absurd hq (Nat.not_lt_zero q))
          rw [zk_un_self (zk_un (zk_un N2 48 B) 49 C) 50] at d0
          (refine hG 900 _ _ _ _ ?_; simp only [r_X11_solve, r_X11_solve_1, r_X11_solve_2, r_X11_solve_3, zk_kl_none, zk_kl_int, zk_kl_ref, zk_kl_null, zk_kl_long, zk_kl_rf, zk_isr_ref, zk_isr_null, zk_isr_rf9, zk_c1_int, zk_c1_ref, zk_c1_null, zk_c1_rf, zk_psh_some, zk_psh_none, zk_nok_int, zk_nok_bool0, zk_nok_bool1, zk_nok_b, zk_fok_0, zk_fok_1, zk_fok_2, zk_fok_n, zk_fok_rf, zb_f, zb_p, zb_i, zb_a, zb_s, zk_nth_0, zk_nth_s, zk_fld_o, zk_put_o, zk_rv_eq, zk_ri_eq, zk_is_o, List.mem_cons, List.not_mem_nil, or_false, false_or, or_true, true_or, and_true, true_and, not_false_iff, not_true_eq_false, true_implies, false_implies, imp_self, implies_true, forall_const, zk_lit, zk_uj_ap, zk_un_ap, zk_un_un, zk_uj_uj, Nat.reduceEqDiff, eq_self, zk_bq, Bool.true_or, Bool.false_or, Nat.le_refl, Nat.zero_add, Nat.add_zero, Nat.reduceAdd, Nat.reduceLeDiff, Nat.le_zero_eq, and_self, and_false, false_and, ite_true, ite_false, Nat.zero_le, List.length_cons, List.length_nil, Option.some.injEq, forall_eq', reduceCtorEq, hnr, c1])
          exact d0
        | succ m ih =>
          intro r B C hr hB
          have c1 : ¬ nI (m_nr J) ≤ nI r := nI_ge (by omega) (by omega)
          have hr20 : r < 20 := by omega
          have hcl : (nI r).toNatClampNeg = r := n_cl (by omega)
          have s5 := hse3 B C
          have f1 : MI J1 (zk_un (zk_un N2 48 B) 49 C) := s5.es.mi hmi
          have f2 : RW J1 (zk_un (zk_un N2 48 B) 49 C) (m_act J1 (zk_un (zk_un N2 48 B) 49 C)) := by rw [s5.es.act]; exact hrw2
          have f4 : VW J1 (zk_un (zk_un N2 48 B) 49 C) := fun e he => by
            have hmg := m_gx f1 he
            rw [s5.es.act] at he
            have h1 : (zk_un (zk_un N2 48 B) 49 C) 47 e = nI (LL J N e) := hA47 e he
            have h2 : g_v (zk_un (zk_un N2 48 B) 49 C) e = LL J N e := by unfold g_v; rw [h1, n_cl (by have := LL_le_INF (J := J) (N := N) e; unfold INF at this; omega)]
            rw [h2]
            exact ⟨⟨h1, LL_le_INF e⟩, hmg⟩
          have f3 : ∃ j, j < m_nr J1 ∧ nI r = nI j := ⟨r, by rw [es1.nr]; omega, rfl⟩
          have f5 : g_best J1 (zk_un (zk_un N2 48 B) 49 C) (g_v (zk_un (zk_un N2 48 B) 49 C)) (nI r) (g_mx (zk_un (zk_un N2 48 B) 49 C) r) (g_my (zk_un (zk_un N2 48 B) 49 C) r) = BB J N r := by
            rw [s5.es.best, s5.es.mx, s5.es.my]
            exact g_bsl_congr (fun e he => by
              have h1 : (zk_un (zk_un N2 48 B) 49 C) 47 e = nI (LL J N e) := hA47 e he
              unfold g_v
              rw [h1, n_cl (by have := LL_le_INF (J := J) (N := N) e; unfold INF at this; omega)])
          have ih2 := ih (r + 1) (upd B r (g_lv (lea J N r))) (upd C r (nI (BB J N r).1)) (by omega) (fun q hq => by
            by_cases e : q = r
            · rw [e, upd_self, upd_self]; exact ⟨rfl, rfl⟩
            · rw [upd_ne _ _ e, upd_ne _ _ e]; exact hB q (by omega))
          (refine hG 900 _ _ _ _ ?_; simp only [r_X11_solve, r_X11_solve_1, r_X11_solve_2, r_X11_solve_3, zk_kl_none, zk_kl_int, zk_kl_ref, zk_kl_null, zk_kl_long, zk_kl_rf, zk_isr_ref, zk_isr_null, zk_isr_rf9, zk_c1_int, zk_c1_ref, zk_c1_null, zk_c1_rf, zk_psh_some, zk_psh_none, zk_nok_int, zk_nok_bool0, zk_nok_bool1, zk_nok_b, zk_fok_0, zk_fok_1, zk_fok_2, zk_fok_n, zk_fok_rf, zb_f, zb_p, zb_i, zb_a, zb_s, zk_nth_0, zk_nth_s, zk_fld_o, zk_put_o, zk_rv_eq, zk_ri_eq, zk_is_o, List.mem_cons, List.not_mem_nil, or_false, false_or, or_true, true_or, and_true, true_and, not_false_iff, not_true_eq_false, true_implies, false_implies, imp_self, implies_true, forall_const, zk_lit, zk_uj_ap, zk_un_ap, zk_un_un, zk_uj_uj, Nat.reduceEqDiff, eq_self, zk_bq, Bool.true_or, Bool.false_or, Nat.le_refl, Nat.zero_add, Nat.add_zero, Nat.reduceAdd, Nat.reduceLeDiff, Nat.le_zero_eq, and_self, and_false, false_and, ite_true, ite_false, Nat.zero_le, List.length_cons, List.length_nil, Option.some.injEq, forall_eq', reduceCtorEq, hnr, c1, hcl, spe_X11_leave, f1, f2, f3, f4, f5, n_succ, zk_un_49_48])
          exact ih2
      have l0 := leave (m_nr J) 0 (N2 48) (N2 49) (by omega) (fun q hq => absurd hq (Nat.not_lt_zero q))
      rw [zk_un_self N2 48, zk_un_self N2 49] at l0
      exact l0
    have es : ∀ A, ES J J1 N (zk_un N1 47 A) := fun A => (hse.un (by decide)).es
    have hI : ∀ A e, m_into (zk_un N1 47 A) e = m_into N e := fun A e => (es A).into e
    have hPX : ∀ A e, m_px (zk_un N1 47 A) e = m_px N e := fun A e => (es A).px e
    have hPY : ∀ A e, m_py (zk_un N1 47 A) e = m_py N e := fun A e => (es A).py e
    have hRW : ∀ A, RW J1 (zk_un N1 47 A) (m_act J1 (zk_un N1 47 A)) := fun A => by rw [(es A).act]; exact hrw
    have lim : ∀ (v : Nat → Nat) (A : Nat → Int32), (∀ e ∈ m_act J N, A e = nI (v e) ∧ LL J N e ≤ v e ∧ v e ≤ DD J N 1 e) → (∀ e ∈ m_act J N, v e ≤ FF J N v e) → ∀ e ∈ m_act J N, A e = nI (LL J N e) := by
      intro v A hM hF e he
      rw [(hM e he).1, Nat.le_antisymm (LL_ge (fun e he => Nat.le_trans (hM e he).2.2 (DD_le_INF _ _ _ _)) hF he) (hM e he).2.1]
    have inner : ∀ s, (∀ (v : Nat → Nat) (A : Nat → Int32), (∀ e ∈ m_act J N, A e = nI (v e) ∧ LL J N e ≤ v e ∧ v e ≤ DD J N 1 e) → ((m_act J N).map v).sum < s → ∀ l2 l3 l4, G 53 [some (.ref (zk_ad E 22)), some (.int 1), l2, l3, l4] [] ((J1, zk_un N1 47 A, Q, O, U), sz, 0, 0)) →
        ∀ m k (v : Nat → Nat) (A : Nat → Int32) b l3 l4, k + m = (m_act J N).length → (∀ e ∈ m_act J N, A e = nI (v e) ∧ LL J N e ≤ v e ∧ v e ≤ DD J N 1 e) → ((m_act J N).map v).sum ≤ s → (b = 0 ∧ (∀ i (hi : i < (m_act J N).length), i < k → v (m_act J N)[i] ≤ FF J N v (m_act J N)[i]) ∨ b = 1 ∧ ((m_act J N).map v).sum < s) →
        G 61 [some (.ref (zk_ad E 22)), some (.int b), some (.int (nI k)), l3, l4] [] ((J1, zk_un N1 47 A, Q, O, U), sz, 0, 0) := by
      intro s hout m
      induction m with
      | zero =>
        intro k v A b l3 l4 hk hM hs hb
        have c1 : nI (m_act J N).length ≤ nI k := nI_le (by omega) (by omega)
        rcases hb with ⟨rfl, hb⟩ | ⟨rfl, hb⟩
        · have ht := tail A 0 l3 l4 (lim v A hM (fun e he => by
            obtain ⟨i, hi, rfl⟩ := List.mem_iff_getElem.mp he
            exact hb i hi (by omega)))
          (refine hG 900 _ _ _ _ ?_; simp only [r_X11_solve, r_X11_solve_1, r_X11_solve_2, r_X11_solve_3, zk_kl_none, zk_kl_int, zk_kl_ref, zk_kl_null, zk_kl_long, zk_kl_rf, zk_isr_ref, zk_isr_null, zk_isr_rf9, zk_c1_int, zk_c1_ref, zk_c1_null, zk_c1_rf, zk_psh_some, zk_psh_none, zk_nok_int, zk_nok_bool0, zk_nok_bool1, zk_nok_b, zk_fok_0, zk_fok_1, zk_fok_2, zk_fok_n, zk_fok_rf, zb_f, zb_p, zb_i, zb_a, zb_s, zk_nth_0, zk_nth_s, zk_fld_o, zk_put_o, zk_rv_eq, zk_ri_eq, zk_is_o, List.mem_cons, List.not_mem_nil, or_false, false_or, or_true, true_or, and_true, true_and, not_false_iff, not_true_eq_false, true_implies, false_implies, imp_self, implies_true, forall_const, zk_lit, zk_uj_ap, zk_un_ap, zk_un_un, zk_uj_uj, Nat.reduceEqDiff, eq_self, zk_bq, Bool.true_or, Bool.false_or, Nat.le_refl, Nat.zero_add, Nat.add_zero, Nat.reduceAdd, Nat.reduceLeDiff, Nat.le_zero_eq, and_self, and_false, false_and, ite_true, ite_false, Nat.zero_le, List.length_cons, List.length_nil, Option.some.injEq, forall_eq', reduceCtorEq, hm, c1])
          (refine hG 900 _ _ _ _ ?_; simp only [r_X11_solve, r_X11_solve_1, r_X11_solve_2, r_X11_solve_3, zk_kl_none, zk_kl_int, zk_kl_ref, zk_kl_null, zk_kl_long, zk_kl_rf, zk_isr_ref, zk_isr_null, zk_isr_rf9, zk_c1_int, zk_c1_ref, zk_c1_null, zk_c1_rf, zk_psh_some, zk_psh_none, zk_nok_int, zk_nok_bool0, zk_nok_bool1, zk_nok_b, zk_fok_0, zk_fok_1, zk_fok_2, zk_fok_n, zk_fok_rf, zb_f, zb_p, zb_i, zb_a, zb_s, zk_nth_0, zk_nth_s, zk_fld_o, zk_put_o, zk_rv_eq, zk_ri_eq, zk_is_o, List.mem_cons, List.not_mem_nil, or_false, false_or, or_true, true_or, and_true, true_and, not_false_iff, not_true_eq_false, true_implies, false_implies, imp_self, implies_true, forall_const, zk_lit, zk_uj_ap, zk_un_ap, zk_un_un, zk_uj_uj, Nat.reduceEqDiff, eq_self, zk_bq, Bool.true_or, Bool.false_or, Nat.le_refl, Nat.zero_add, Nat.add_zero, Nat.reduceAdd, Nat.reduceLeDiff, Nat.le_zero_eq, and_self, and_false, false_and, ite_true, ite_false, Nat.zero_le, List.length_cons, List.length_nil, Option.some.injEq, forall_eq', reduceCtorEq])
          exact ht
        · have ht := hout v A hM hb (some (.int (nI k))) l3 l4
          (refine hG 900 _ _ _ _ ?_; simp only [r_X11_solve, r_X11_solve_1, r_X11_solve_2, r_X11_solve_3, zk_kl_none, zk_kl_int, zk_kl_ref, zk_kl_null, zk_kl_long, zk_kl_rf, zk_isr_ref, zk_isr_null, zk_isr_rf9, zk_c1_int, zk_c1_ref, zk_c1_null, zk_c1_rf, zk_psh_some, zk_psh_none, zk_nok_int, zk_nok_bool0, zk_nok_bool1, zk_nok_b, zk_fok_0, zk_fok_1, zk_fok_2, zk_fok_n, zk_fok_rf, zb_f, zb_p, zb_i, zb_a, zb_s, zk_nth_0, zk_nth_s, zk_fld_o, zk_put_o, zk_rv_eq, zk_ri_eq, zk_is_o, List.mem_cons, List.not_mem_nil, or_false, false_or, or_true, true_or, and_true, true_and, not_false_iff, not_true_eq_false, true_implies, false_implies, imp_self, implies_true, forall_const, zk_lit, zk_uj_ap, zk_un_ap, zk_un_un, zk_uj_uj, Nat.reduceEqDiff, eq_self, zk_bq, Bool.true_or, Bool.false_or, Nat.le_refl, Nat.zero_add, Nat.add_zero, Nat.reduceAdd, Nat.reduceLeDiff, Nat.le_zero_eq, and_self, and_false, false_and, ite_true, ite_false, Nat.zero_le, List.length_cons, List.length_nil, Option.some.injEq, forall_eq', reduceCtorEq, hm, c1])
          exact ht
      | succ m ih =>
        intro k v A b l3 l4 hk hM hs hb
        have hk2 : k < (m_act J N).length := by omega
        have c1 : ¬ nI (m_act J N).length ≤ nI k := nI_ge (by omega) (by omega)
        have hmem := hA k hk2
        have hr1 := hrow k hk2
        generalize hek : (m_act J N)[k] = e at hmem hr1
        have he := (m_act_mem.mp hmem).1
        have hin : vp_in (nI k) 100 := n_in (by omega) (by decide)
        have hcl : (nI k).toNatClampNeg = k := n_cl (by omega)
        have hin2 : vp_in (nI e) 100 := n_in (by omega) (by decide)
        have hcl2 : (nI e).toNatClampNeg = e := n_cl (by omega)
        have h2 : nI e / 2 = nI (e / 2) := n_div2 (by omega)
        have hx3 : ∃ e1, e1 < 100 ∧ nI e = nI e1 := ⟨e, he, rfl⟩
        by_cases qo : m_into N e = -1
        · have ih2 := fun l3 l4 => ih (k + 1) v A b l3 l4 (by omega) hM hs (by
            rcases hb with ⟨rfl, hb⟩ | hb
            · refine Or.inl ⟨rfl, fun i hi hik => ?_⟩
              rcases Nat.lt_or_ge i k with w | w
              · exact hb i hi w
              · have w2 : i = k := by omega
                subst w2
                rw [hek]
                have := (hM e hmem).2.2
                rw [DD_out qo] at this
                omega
            · exact Or.inr hb)
          (refine hG 900 _ _ _ _ ?_; simp only [r_X11_solve, r_X11_solve_1, r_X11_solve_2, r_X11_solve_3, zk_kl_none, zk_kl_int, zk_kl_ref, zk_kl_null, zk_kl_long, zk_kl_rf, zk_isr_ref, zk_isr_null, zk_isr_rf9, zk_c1_int, zk_c1_ref, zk_c1_null, zk_c1_rf, zk_psh_some, zk_psh_none, zk_nok_int, zk_nok_bool0, zk_nok_bool1, zk_nok_b, zk_fok_0, zk_fok_1, zk_fok_2, zk_fok_n, zk_fok_rf, zb_f, zb_p, zb_i, zb_a, zb_s, zk_nth_0, zk_nth_s, zk_fld_o, zk_put_o, zk_rv_eq, zk_ri_eq, zk_is_o, List.mem_cons, List.not_mem_nil, or_false, false_or, or_true, true_or, and_true, true_and, not_false_iff, not_true_eq_false, true_implies, false_implies, imp_self, implies_true, forall_const, zk_lit, zk_uj_ap, zk_un_ap, zk_un_un, zk_uj_uj, Nat.reduceEqDiff, eq_self, zk_bq, Bool.true_or, Bool.false_or, Nat.le_refl, Nat.zero_add, Nat.add_zero, Nat.reduceAdd, Nat.reduceLeDiff, Nat.le_zero_eq, and_self, and_false, false_and, ite_true, ite_false, Nat.zero_le, List.length_cons, List.length_nil, Option.some.injEq, forall_eq', reduceCtorEq, hm, c1, hin, hcl, hr1, hin2, hcl2, spe_X11_into, hx3, hI, qo, n_succ])
          exact ih2 _ _
        · have hvw : VW J1 (zk_un N1 47 A) := fun f hf => by
            have hmg := m_gx ((es A).mi hmi) hf
            rw [(es A).act] at hf
            have h1 : (zk_un N1 47 A) 47 f = nI (v f) := (hM f hf).1
            have h3 : v f ≤ INF := Nat.le_trans (hM f hf).2.2 (DD_le_INF _ _ _ _)
            have h2 : g_v (zk_un N1 47 A) f = v f := by unfold g_v; rw [h1, n_cl (by unfold INF at h3; omega)]
            rw [h2]
            exact ⟨⟨h1, h3⟩, hmg⟩
          have hgv : ∀ r b x y, g_least J1 (zk_un N1 47 A) (g_v (zk_un N1 47 A)) r b x y = g_least J N v r b x y := fun r b x y => by
            rw [(es A).least]
            have hq : ∀ f ∈ m_act J N, g_v (zk_un N1 47 A) f = v f := fun f hf => by
              have h3 : v f ≤ INF := Nat.le_trans (hM f hf).2.2 (DD_le_INF _ _ _ _)
              have h1 : (zk_un N1 47 A) 47 f = nI (v f) := (hM f hf).1
              unfold g_v; rw [h1, n_cl (by unfold INF at h3; omega)]
            exact Nat.le_antisymm (g_least_mono fun f hf => Nat.le_of_eq (hq f hf)) (g_least_mono fun f hf => Nat.le_of_eq (hq f hf).symm)
          obtain ⟨⟨px1, px2⟩, py1, py2⟩ := m_gx hmi hmem
          have hcx : (nI (g_x N e)).toNatClampNeg = g_x N e := n_cl (by omega)
          have hcy : (nI (g_y N e)).toNatClampNeg = g_y N e := n_cl (by omega)
          have hxy : ∃ x y, x ≤ 400 ∧ y ≤ 400 ∧ nI (g_x N e) = nI x ∧ nI (g_y N e) = nI y := ⟨_, _, px2, py2, rfl, rfl⟩
          have hv := (hM e hmem).1
          have hvI : v e ≤ INF := Nat.le_trans (hM e hmem).2.2 (DD_le_INF _ _ _ _)
          have hFI := FF_le_INF J N v e
          have hgl : g_least J N v (m_into N e) (nI (e / 2)) (g_x N e) (g_y N e) ≤ INF := fmin_le_init _ _ _ _
          have hFe : FF J N v e = min INF (g_least J N v (m_into N e) (nI (e / 2)) (g_x N e) (g_y N e) + steep e) := by rw [FF, if_neg qo]
          have hmin : i_min (nI INF) (nI (g_least J N v (m_into N e) (nI (e / 2)) (g_x N e) (g_y N e)) + nI (steep e)) = nI (FF J N v e) := by
            have : steep e ≤ 20 := by unfold steep; split <;> omega
            rw [n_add, n_min (by decide) (by unfold INF at hgl; omega), hFe]
          have hmin2 : i_min (nI (v e)) (nI (FF J N v e)) = nI (min (v e) (FF J N v e)) := n_min (by unfold INF at hvI; omega) (by unfold INF at hFI; omega)
          have hLF : LL J N e ≤ FF J N v e := by
            rw [← LL_fix hmem]
            exact FF_mono (fun f hf => (hM f hf).2.1)
          have hML : ∀ f ∈ m_act J N, upd A e (nI (min (v e) (FF J N v e))) f = nI ((if f = e then min (v e) (FF J N v e) else v f)) ∧ LL J N f ≤ (if f = e then min (v e) (FF J N v e) else v f) ∧ (if f = e then min (v e) (FF J N v e) else v f) ≤ DD J N 1 f := fun f hf => by
            by_cases w : f = e
            · subst w
              rw [upd_self, if_pos rfl]
              have := hM f hf
              exact ⟨rfl, by omega, by omega⟩
            · rw [upd_ne _ _ w, if_neg w]
              exact hM f hf
          by_cases q5 : FF J N v e < v e
          · have c5 : ¬ nI (v e) ≤ nI (FF J N v e) := nI_ge q5 (by unfold INF at hvI; omega)
            have hs2 : ((m_act J N).map (fun f => if f = e then min (v e) (FF J N v e) else v f)).sum < ((m_act J N).map v).sum := sum_lt hmem (by rw [if_pos rfl]; omega) (fun f hf => by
              show (if f = e then min (v e) (FF J N v e) else v f) ≤ v f
              split
              · next w => rw [w]; omega
              · exact Nat.le_refl _)
            have ih2 := fun l3 l4 => ih (k + 1) _ _ 1 l3 l4 (by omega) hML (by omega) (Or.inr ⟨rfl, by omega⟩)
            have hb2 : b = 0 ∨ b = 1 := hb.elim (fun w => Or.inl w.1) (fun w => Or.inr w.1)
            by_cases k40 : e / 2 < 40
            · have c40 : ¬ (40 : Int32) ≤ nI (e / 2) := (nI_ge (a := e / 2) (b := 40) k40 (by decide) : ¬ nI 40 ≤ nI (e / 2))
              rw [show nI (steep e) = 0 by unfold steep; rw [if_pos k40]; rfl] at hmin
              rcases hb2 with rfl | rfl
              · (refine hG 900 _ _ _ _ ?_; simp only [r_X11_solve, r_X11_solve_1, r_X11_solve_2, r_X11_solve_3, zk_kl_none, zk_kl_int, zk_kl_ref, zk_kl_null, zk_kl_long, zk_kl_rf, zk_isr_ref, zk_isr_null, zk_isr_rf9, zk_c1_int, zk_c1_ref, zk_c1_null, zk_c1_rf, zk_psh_some, zk_psh_none, zk_nok_int, zk_nok_bool0, zk_nok_bool1, zk_nok_b, zk_fok_0, zk_fok_1, zk_fok_2, zk_fok_n, zk_fok_rf, zb_f, zb_p, zb_i, zb_a, zb_s, zk_nth_0, zk_nth_s, zk_fld_o, zk_put_o, zk_rv_eq, zk_ri_eq, zk_is_o, List.mem_cons, List.not_mem_nil, or_false, false_or, or_true, true_or, and_true, true_and, not_false_iff, not_true_eq_false, true_implies, false_implies, imp_self, implies_true, forall_const, zk_lit, zk_uj_ap, zk_un_ap, zk_un_un, zk_uj_uj, Nat.reduceEqDiff, eq_self, zk_bq, Bool.true_or, Bool.false_or, Nat.le_refl, Nat.zero_add, Nat.add_zero, Nat.reduceAdd, Nat.reduceLeDiff, Nat.le_zero_eq, and_self, and_false, false_and, ite_true, ite_false, Nat.zero_le, List.length_cons, List.length_nil, Option.some.injEq, forall_eq', reduceCtorEq, hm, c1, hin, hcl, hr1, hin2, hcl2, spe_X11_into, spe_X11_pointX, spe_X11_pointY, spe_X11_least, hx3, hI, hPX, hPY, px1, py1, qo, h2, c40, hms1, hRW, hvw, hgv, hxy, hcx, hcy, hINF, hmin, hmin2, hv, c5, o1, n_succ, zk_un_un])
                exact ih2 _ _
              · (refine hG 900 _ _ _ _ ?_; simp only [r_X11_solve, r_X11_solve_1, r_X11_solve_2, r_X11_solve_3, zk_kl_none, zk_kl_int, zk_kl_ref, zk_kl_null, zk_kl_long, zk_kl_rf, zk_isr_ref, zk_isr_null, zk_isr_rf9, zk_c1_int, zk_c1_ref, zk_c1_null, zk_c1_rf, zk_psh_some, zk_psh_none, zk_nok_int, zk_nok_bool0, zk_nok_bool1, zk_nok_b, zk_fok_0, zk_fok_1, zk_fok_2, zk_fok_n, zk_fok_rf, zb_f, zb_p, zb_i, zb_a, zb_s, zk_nth_0, zk_nth_s, zk_fld_o, zk_put_o, zk_rv_eq, zk_ri_eq, zk_is_o, List.mem_cons, List.not_mem_nil, or_false, false_or, or_true, true_or, and_true, true_and, not_false_iff, not_true_eq_false, true_implies, false_implies, imp_self, implies_true, forall_const, zk_lit, zk_uj_ap, zk_un_ap, zk_un_un, zk_uj_uj, Nat.reduceEqDiff, eq_self, zk_bq, Bool.true_or, Bool.false_or, Nat.le_refl, Nat.zero_add, Nat.add_zero, Nat.reduceAdd, Nat.reduceLeDiff, Nat.le_zero_eq, and_self, and_false, false_and, ite_true, ite_false, Nat.zero_le, List.length_cons, List.length_nil, Option.some.injEq, forall_eq', reduceCtorEq, hm, c1, hin, hcl, hr1, hin2, hcl2, spe_X11_into, spe_X11_pointX, spe_X11_pointY, spe_X11_least, hx3, hI, hPX, hPY, px1, py1, qo, h2, c40, hms1, hRW, hvw, hgv, hxy, hcx, hcy, hINF, hmin, hmin2, hv, c5, o1, n_succ, zk_un_un])
                exact ih2 _ _
            · have c40 : (40 : Int32) ≤ nI (e / 2) := (nI_le (a := 40) (b := e / 2) (by omega) (by omega) : nI 40 ≤ nI (e / 2))
              rw [show nI (steep e) = 20 by unfold steep; rw [if_neg k40]; rfl] at hmin
              rcases hb2 with rfl | rfl
              · (refine hG 900 _ _ _ _ ?_; simp only [r_X11_solve, r_X11_solve_1, r_X11_solve_2, r_X11_solve_3, zk_kl_none, zk_kl_int, zk_kl_ref, zk_kl_null, zk_kl_long, zk_kl_rf, zk_isr_ref, zk_isr_null, zk_isr_rf9, zk_c1_int, zk_c1_ref, zk_c1_null, zk_c1_rf, zk_psh_some, zk_psh_none, zk_nok_int, zk_nok_bool0, zk_nok_bool1, zk_nok_b, zk_fok_0, zk_fok_1, zk_fok_2, zk_fok_n, zk_fok_rf, zb_f, zb_p, zb_i, zb_a, zb_s, zk_nth_0, zk_nth_s, zk_fld_o, zk_put_o, zk_rv_eq, zk_ri_eq, zk_is_o, List.mem_cons, List.not_mem_nil, or_false, false_or, or_true, true_or, and_true, true_and, not_false_iff, not_true_eq_false, true_implies, false_implies, imp_self, implies_true, forall_const, zk_lit, zk_uj_ap, zk_un_ap, zk_un_un, zk_uj_uj, Nat.reduceEqDiff, eq_self, zk_bq, Bool.true_or, Bool.false_or, Nat.le_refl, Nat.zero_add, Nat.add_zero, Nat.reduceAdd, Nat.reduceLeDiff, Nat.le_zero_eq, and_self, and_false, false_and, ite_true, ite_false, Nat.zero_le, List.length_cons, List.length_nil, Option.some.injEq, forall_eq', reduceCtorEq, hm, c1, hin, hcl, hr1, hin2, hcl2, spe_X11_into, spe_X11_pointX, spe_X11_pointY, spe_X11_least, hx3, hI, hPX, hPY, px1, py1, qo, h2, c40, hms1, hRW, hvw, hgv, hxy, hcx, hcy, hINF, hmin, hmin2, hv, c5, o1, n_succ, zk_un_un])
                exact ih2 _ _
              · (refine hG 900 _ _ _ _ ?_; simp only [r_X11_solve, r_X11_solve_1, r_X11_solve_2, r_X11_solve_3, zk_kl_none, zk_kl_int, zk_kl_ref, zk_kl_null, zk_kl_long, zk_kl_rf, zk_isr_ref, zk_isr_null, zk_isr_rf9, zk_c1_int, zk_c1_ref, zk_c1_null, zk_c1_rf, zk_psh_some, zk_psh_none, zk_nok_int, zk_nok_bool0, zk_nok_bool1, zk_nok_b, zk_fok_0, zk_fok_1, zk_fok_2, zk_fok_n, zk_fok_rf, zb_f, zb_p, zb_i, zb_a, zb_s, zk_nth_0, zk_nth_s, zk_fld_o, zk_put_o, zk_rv_eq, zk_ri_eq, zk_is_o, List.mem_cons, List.not_mem_nil, or_false, false_or, or_true, true_or, and_true, true_and, not_false_iff, not_true_eq_false, true_implies, false_implies, imp_self, implies_true, forall_const, zk_lit, zk_uj_ap, zk_un_ap, zk_un_un, zk_uj_uj, Nat.reduceEqDiff, eq_self, zk_bq, Bool.true_or, Bool.false_or, Nat.le_refl, Nat.zero_add, Nat.add_zero, Nat.reduceAdd, Nat.reduceLeDiff, Nat.le_zero_eq, and_self, and_false, false_and, ite_true, ite_false, Nat.zero_le, List.length_cons, List.length_nil, Option.some.injEq, forall_eq', reduceCtorEq, hm, c1, hin, hcl, hr1, hin2, hcl2, spe_X11_into, spe_X11_pointX, spe_X11_pointY, spe_X11_least, hx3, hI, hPX, hPY, px1, py1, qo, h2, c40, hms1, hRW, hvw, hgv, hxy, hcx, hcy, hINF, hmin, hmin2, hv, c5, o1, n_succ, zk_un_un])
                exact ih2 _ _
          · have c5 : nI (v e) ≤ nI (FF J N v e) := nI_le (by omega) (by unfold INF at hFI; omega)
            have hve : (fun f => if f = e then min (v e) (FF J N v e) else v f) = v := by
              funext f
              split
              · next w => rw [w]; omega
              · rfl
            have hML2 : ∀ f ∈ m_act J N, upd A e (nI (min (v e) (FF J N v e))) f = nI (v f) ∧ LL J N f ≤ v f ∧ v f ≤ DD J N 1 f := fun f hf => by
              have := hML f hf
              have w : (if f = e then min (v e) (FF J N v e) else v f) = v f := congrFun hve f
              rwa [w] at this
            have ih2 := fun l3 l4 => ih (k + 1) v _ b l3 l4 (by omega) hML2 hs (by
              rcases hb with ⟨rfl, hb⟩ | hb
              · refine Or.inl ⟨rfl, fun i hi hik => ?_⟩
                rcases Nat.lt_or_ge i k with w | w
                · exact hb i hi w
                · have w2 : i = k := by omega
                  subst w2
                  rw [hek]
                  omega
              · exact Or.inr hb)
            have hb2 : b = 0 ∨ b = 1 := hb.elim (fun w => Or.inl w.1) (fun w => Or.inr w.1)
            clear hb
            by_cases k40 : e / 2 < 40
            · have c40 : ¬ (40 : Int32) ≤ nI (e / 2) := (nI_ge (a := e / 2) (b := 40) k40 (by decide) : ¬ nI 40 ≤ nI (e / 2))
              rw [show nI (steep e) = 0 by unfold steep; rw [if_pos k40]; rfl] at hmin
              rcases hb2 with rfl | rfl
              · (refine hG 900 _ _ _ _ ?_; simp only [r_X11_solve, r_X11_solve_1, r_X11_solve_2, r_X11_solve_3, zk_kl_none, zk_kl_int, zk_kl_ref, zk_kl_null, zk_kl_long, zk_kl_rf, zk_isr_ref, zk_isr_null, zk_isr_rf9, zk_c1_int, zk_c1_ref, zk_c1_null, zk_c1_rf, zk_psh_some, zk_psh_none, zk_nok_int, zk_nok_bool0, zk_nok_bool1, zk_nok_b, zk_fok_0, zk_fok_1, zk_fok_2, zk_fok_n, zk_fok_rf, zb_f, zb_p, zb_i, zb_a, zb_s, zk_nth_0, zk_nth_s, zk_fld_o, zk_put_o, zk_rv_eq, zk_ri_eq, zk_is_o, List.mem_cons, List.not_mem_nil, or_false, false_or, or_true, true_or, and_true, true_and, not_false_iff, not_true_eq_false, true_implies, false_implies, imp_self, implies_true, forall_const, zk_lit, zk_uj_ap, zk_un_ap, zk_un_un, zk_uj_uj, Nat.reduceEqDiff, eq_self, zk_bq, Bool.true_or, Bool.false_or, Nat.le_refl, Nat.zero_add, Nat.add_zero, Nat.reduceAdd, Nat.reduceLeDiff, Nat.le_zero_eq, and_self, and_false, false_and, ite_true, ite_false, Nat.zero_le, List.length_cons, List.length_nil, Option.some.injEq, forall_eq', reduceCtorEq, hm, c1, hin, hcl, hr1, hin2, hcl2, spe_X11_into, spe_X11_pointX, spe_X11_pointY, spe_X11_least, hx3, hI, hPX, hPY, px1, py1, qo, h2, c40, hms1, hRW, hvw, hgv, hxy, hcx, hcy, hINF, hmin, hmin2, hv, c5, o1, n_succ, zk_un_un])
                exact ih2 _ _
              · (refine hG 900 _ _ _ _ ?_; simp only [r_X11_solve, r_X11_solve_1, r_X11_solve_2, r_X11_solve_3, zk_kl_none, zk_kl_int, zk_kl_ref, zk_kl_null, zk_kl_long, zk_kl_rf, zk_isr_ref, zk_isr_null, zk_isr_rf9, zk_c1_int, zk_c1_ref, zk_c1_null, zk_c1_rf, zk_psh_some, zk_psh_none, zk_nok_int, zk_nok_bool0, zk_nok_bool1, zk_nok_b, zk_fok_0, zk_fok_1, zk_fok_2, zk_fok_n, zk_fok_rf, zb_f, zb_p, zb_i, zb_a, zb_s, zk_nth_0, zk_nth_s, zk_fld_o, zk_put_o, zk_rv_eq, zk_ri_eq, zk_is_o, List.mem_cons, List.not_mem_nil, or_false, false_or, or_true, true_or, and_true, true_and, not_false_iff, not_true_eq_false, true_implies, false_implies, imp_self, implies_true, forall_const, zk_lit, zk_uj_ap, zk_un_ap, zk_un_un, zk_uj_uj, Nat.reduceEqDiff, eq_self, zk_bq, Bool.true_or, Bool.false_or, Nat.le_refl, Nat.zero_add, Nat.add_zero, Nat.reduceAdd, Nat.reduceLeDiff, Nat.le_zero_eq, and_self, and_false, false_and, ite_true, ite_false, Nat.zero_le, List.length_cons, List.length_nil, Option.some.injEq, forall_eq', reduceCtorEq, hm, c1, hin, hcl, hr1, hin2, hcl2, spe_X11_into, spe_X11_pointX, spe_X11_pointY, spe_X11_least, hx3, hI, hPX, hPY, px1, py1, qo, h2, c40, hms1, hRW, hvw, hgv, hxy, hcx, hcy, hINF, hmin, hmin2, hv, c5, o1, n_succ, zk_un_un])
                exact ih2 _ _
            · have c40 : (40 : Int32) ≤ nI (e / 2) := (nI_le (a := 40) (b := e / 2) (by omega) (by omega) : nI 40 ≤ nI (e / 2))
              rw [show nI (steep e) = 20 by unfold steep; rw [if_neg k40]; rfl] at hmin
              rcases hb2 with rfl | rfl
              · (refine hG 900 _ _ _ _ ?_; simp only [r_X11_solve, r_X11_solve_1, r_X11_solve_2, r_X11_solve_3, zk_kl_none, zk_kl_int, zk_kl_ref, zk_kl_null, zk_kl_long, zk_kl_rf, zk_isr_ref, zk_isr_null, zk_isr_rf9, zk_c1_int, zk_c1_ref, zk_c1_null, zk_c1_rf, zk_psh_some, zk_psh_none, zk_nok_int, zk_nok_bool0, zk_nok_bool1, zk_nok_b, zk_fok_0, zk_fok_1, zk_fok_2, zk_fok_n, zk_fok_rf, zb_f, zb_p, zb_i, zb_a, zb_s, zk_nth_0, zk_nth_s, zk_fld_o, zk_put_o, zk_rv_eq, zk_ri_eq, zk_is_o, List.mem_cons, List.not_mem_nil, or_false, false_or, or_true, true_or, and_true, true_and, not_false_iff, not_true_eq_false, true_implies, false_implies, imp_self, implies_true, forall_const, zk_lit, zk_uj_ap, zk_un_ap, zk_un_un, zk_uj_uj, Nat.reduceEqDiff, eq_self, zk_bq, Bool.true_or, Bool.false_or, Nat.le_refl, Nat.zero_add, Nat.add_zero, Nat.reduceAdd, Nat.reduceLeDiff, Nat.le_zero_eq, and_self, and_false, false_and, ite_true, ite_false, Nat.zero_le, List.length_cons, List.length_nil, Option.some.injEq, forall_eq', reduceCtorEq, hm, c1, hin, hcl, hr1, hin2, hcl2, spe_X11_into, spe_X11_pointX, spe_X11_pointY, spe_X11_least, hx3, hI, hPX, hPY, px1, py1, qo, h2, c40, hms1, hRW, hvw, hgv, hxy, hcx, hcy, hINF, hmin, hmin2, hv, c5, o1, n_succ, zk_un_un])
                exact ih2 _ _
              · (refine hG 900 _ _ _ _ ?_; simp only [r_X11_solve, r_X11_solve_1, r_X11_solve_2, r_X11_solve_3, zk_kl_none, zk_kl_int, zk_kl_ref, zk_kl_null, zk_kl_long, zk_kl_rf, zk_isr_ref, zk_isr_null, zk_isr_rf9, zk_c1_int, zk_c1_ref, zk_c1_null, zk_c1_rf, zk_psh_some, zk_psh_none, zk_nok_int, zk_nok_bool0, zk_nok_bool1, zk_nok_b, zk_fok_0, zk_fok_1, zk_fok_2, zk_fok_n, zk_fok_rf, zb_f, zb_p, zb_i, zb_a, zb_s, zk_nth_0, zk_nth_s, zk_fld_o, zk_put_o, zk_rv_eq, zk_ri_eq, zk_is_o, List.mem_cons, List.not_mem_nil, or_false, false_or, or_true, true_or, and_true, true_and, not_false_iff, not_true_eq_false, true_implies, false_implies, imp_self, implies_true, forall_const, zk_lit, zk_uj_ap, zk_un_ap, zk_un_un, zk_uj_uj, Nat.reduceEqDiff, eq_self, zk_bq, Bool.true_or, Bool.false_or, Nat.le_refl, Nat.zero_add, Nat.add_zero, Nat.reduceAdd, Nat.reduceLeDiff, Nat.le_zero_eq, and_self, and_false, false_and, ite_true, ite_false, Nat.zero_le, List.length_cons, List.length_nil, Option.some.injEq, forall_eq', reduceCtorEq, hm, c1, hin, hcl, hr1, hin2, hcl2, spe_X11_into, spe_X11_pointX, spe_X11_pointY, spe_X11_least, hx3, hI, hPX, hPY, px1, py1, qo, h2, c40, hms1, hRW, hvw, hgv, hxy, hcx, hcy, hINF, hmin, hmin2, hv, c5, o1, n_succ, zk_un_un])
                exact ih2 _ _
    have outer : ∀ s (v : Nat → Nat) (A : Nat → Int32), (∀ e ∈ m_act J N, A e = nI (v e) ∧ LL J N e ≤ v e ∧ v e ≤ DD J N 1 e) → ((m_act J N).map v).sum < s → ∀ l2 l3 l4, G 53 [some (.ref (zk_ad E 22)), some (.int 1), l2, l3, l4] [] ((J1, zk_un N1 47 A, Q, O, U), sz, 0, 0) := by
      intro s
      induction s with
      | zero => intro v A _ h; exact absurd h (Nat.not_lt_zero _)
      | succ s ih =>
        intro v A hM hs l2 l3 l4
        have i0 := inner ((m_act J N).map v).sum (fun v2 A2 h1 h2 => ih v2 A2 h1 (by omega)) (m_act J N).length 0 v A 0 l3 l4 (by omega) hM (Nat.le_refl _) (Or.inl ⟨rfl, fun i hi h => absurd h (Nat.not_lt_zero i)⟩)
        (refine hG 900 _ _ _ _ ?_; simp only [r_X11_solve, r_X11_solve_1, r_X11_solve_2, r_X11_solve_3, zk_kl_none, zk_kl_int, zk_kl_ref, zk_kl_null, zk_kl_long, zk_kl_rf, zk_isr_ref, zk_isr_null, zk_isr_rf9, zk_c1_int, zk_c1_ref, zk_c1_null, zk_c1_rf, zk_psh_some, zk_psh_none, zk_nok_int, zk_nok_bool0, zk_nok_bool1, zk_nok_b, zk_fok_0, zk_fok_1, zk_fok_2, zk_fok_n, zk_fok_rf, zb_f, zb_p, zb_i, zb_a, zb_s, zk_nth_0, zk_nth_s, zk_fld_o, zk_put_o, zk_rv_eq, zk_ri_eq, zk_is_o, List.mem_cons, List.not_mem_nil, or_false, false_or, or_true, true_or, and_true, true_and, not_false_iff, not_true_eq_false, true_implies, false_implies, imp_self, implies_true, forall_const, zk_lit, zk_uj_ap, zk_un_ap, zk_un_un, zk_uj_uj, Nat.reduceEqDiff, eq_self, zk_bq, Bool.true_or, Bool.false_or, Nat.le_refl, Nat.zero_add, Nat.add_zero, Nat.reduceAdd, Nat.reduceLeDiff, Nat.le_zero_eq, and_self, and_false, false_and, ite_true, ite_false, Nat.zero_le, List.length_cons, List.length_nil, Option.some.injEq, forall_eq', reduceCtorEq])
        exact i0
    have first : ∀ m k (A : Nat → Int32), k + m = (m_act J N).length → (∀ i (hi : i < (m_act J N).length), i < k → A (m_act J N)[i] = nI (DD J N 1 (m_act J N)[i])) → G 6 [some (.ref (zk_ad E 22)), some (.int (nI k)), none, none, none] [] ((J1, zk_un N1 47 A, Q, O, U), sz, 0, 0) := by
      intro m
      induction m with
      | zero =>
        intro k A hk hAk
        have c1 : nI (m_act J N).length ≤ nI k := nI_le (by omega) (by omega)
        have o0 := outer _ (DD J N 1) A (fun e he => by
          obtain ⟨i, hi, rfl⟩ := List.mem_iff_getElem.mp he
          exact ⟨hAk i hi (by omega), DD_anti (by decide) _, Nat.le_refl _⟩) (Nat.lt_succ_self _) none none none
        (refine hG 900 _ _ _ _ ?_; simp only [r_X11_solve, r_X11_solve_1, r_X11_solve_2, r_X11_solve_3, zk_kl_none, zk_kl_int, zk_kl_ref, zk_kl_null, zk_kl_long, zk_kl_rf, zk_isr_ref, zk_isr_null, zk_isr_rf9, zk_c1_int, zk_c1_ref, zk_c1_null, zk_c1_rf, zk_psh_some, zk_psh_none, zk_nok_int, zk_nok_bool0, zk_nok_bool1, zk_nok_b, zk_fok_0, zk_fok_1, zk_fok_2, zk_fok_n, zk_fok_rf, zb_f, zb_p, zb_i, zb_a, zb_s, zk_nth_0, zk_nth_s, zk_fld_o, zk_put_o, zk_rv_eq, zk_ri_eq, zk_is_o, List.mem_cons, List.not_mem_nil, or_false, false_or, or_true, true_or, and_true, true_and, not_false_iff, not_true_eq_false, true_implies, false_implies, imp_self, implies_true, forall_const, zk_lit, zk_uj_ap, zk_un_ap, zk_un_un, zk_uj_uj, Nat.reduceEqDiff, eq_self, zk_bq, Bool.true_or, Bool.false_or, Nat.le_refl, Nat.zero_add, Nat.add_zero, Nat.reduceAdd, Nat.reduceLeDiff, Nat.le_zero_eq, and_self, and_false, false_and, ite_true, ite_false, Nat.zero_le, List.length_cons, List.length_nil, Option.some.injEq, forall_eq', reduceCtorEq, hm, c1])
        exact o0
      | succ m ih =>
        intro k A hk hAk
        have hk2 : k < (m_act J N).length := by omega
        have c1 : ¬ nI (m_act J N).length ≤ nI k := nI_ge (by omega) (by omega)
        have hmem := hA k hk2
        have hr1 := hrow k hk2
        generalize hek : (m_act J N)[k] = e at hmem hr1
        have he := (m_act_mem.mp hmem).1
        have hin : vp_in (nI k) 100 := n_in (by omega) (by decide)
        have hcl : (nI k).toNatClampNeg = k := n_cl (by omega)
        have hin2 : vp_in (nI e) 100 := n_in (by omega) (by decide)
        have hcl2 : (nI e).toNatClampNeg = e := n_cl (by omega)
        have hx3 : ∃ e1, e1 < 100 ∧ nI e = nI e1 := ⟨e, he, rfl⟩
        have ih2 := ih (k + 1) (upd A e (nI (DD J N 1 e))) (by omega) (fun i hi hik => by
          by_cases w : (m_act J N)[i] = e
          · rw [w, upd_self]
          · rw [upd_ne _ _ w]
            exact hAk i hi (by
              rcases Nat.lt_or_ge i k with q | q
              · exact q
              · exfalso; apply w; rw [← hek]; congr 1; omega))
        by_cases qo : m_into N e = -1
        · rw [DD_out qo, show nI 0 = 0 from rfl] at ih2
          (refine hG 900 _ _ _ _ ?_; simp only [r_X11_solve, r_X11_solve_1, r_X11_solve_2, r_X11_solve_3, zk_kl_none, zk_kl_int, zk_kl_ref, zk_kl_null, zk_kl_long, zk_kl_rf, zk_isr_ref, zk_isr_null, zk_isr_rf9, zk_c1_int, zk_c1_ref, zk_c1_null, zk_c1_rf, zk_psh_some, zk_psh_none, zk_nok_int, zk_nok_bool0, zk_nok_bool1, zk_nok_b, zk_fok_0, zk_fok_1, zk_fok_2, zk_fok_n, zk_fok_rf, zb_f, zb_p, zb_i, zb_a, zb_s, zk_nth_0, zk_nth_s, zk_fld_o, zk_put_o, zk_rv_eq, zk_ri_eq, zk_is_o, List.mem_cons, List.not_mem_nil, or_false, false_or, or_true, true_or, and_true, true_and, not_false_iff, not_true_eq_false, true_implies, false_implies, imp_self, implies_true, forall_const, zk_lit, zk_uj_ap, zk_un_ap, zk_un_un, zk_uj_uj, Nat.reduceEqDiff, eq_self, zk_bq, Bool.true_or, Bool.false_or, Nat.le_refl, Nat.zero_add, Nat.add_zero, Nat.reduceAdd, Nat.reduceLeDiff, Nat.le_zero_eq, and_self, and_false, false_and, ite_true, ite_false, Nat.zero_le, List.length_cons, List.length_nil, Option.some.injEq, forall_eq', reduceCtorEq, hm, c1, hin, hcl, hr1, hin2, hcl2, spe_X11_into, hx3, hI, qo, n_succ, zk_un_un])
          exact ih2
        · rw [DD_1 qo] at ih2
          (refine hG 900 _ _ _ _ ?_; simp only [r_X11_solve, r_X11_solve_1, r_X11_solve_2, r_X11_solve_3, zk_kl_none, zk_kl_int, zk_kl_ref, zk_kl_null, zk_kl_long, zk_kl_rf, zk_isr_ref, zk_isr_null, zk_isr_rf9, zk_c1_int, zk_c1_ref, zk_c1_null, zk_c1_rf, zk_psh_some, zk_psh_none, zk_nok_int, zk_nok_bool0, zk_nok_bool1, zk_nok_b, zk_fok_0, zk_fok_1, zk_fok_2, zk_fok_n, zk_fok_rf, zb_f, zb_p, zb_i, zb_a, zb_s, zk_nth_0, zk_nth_s, zk_fld_o, zk_put_o, zk_rv_eq, zk_ri_eq, zk_is_o, List.mem_cons, List.not_mem_nil, or_false, false_or, or_true, true_or, and_true, true_and, not_false_iff, not_true_eq_false, true_implies, false_implies, imp_self, implies_true, forall_const, zk_lit, zk_uj_ap, zk_un_ap, zk_un_un, zk_uj_uj, Nat.reduceEqDiff, eq_self, zk_bq, Bool.true_or, Bool.false_or, Nat.le_refl, Nat.zero_add, Nat.add_zero, Nat.reduceAdd, Nat.reduceLeDiff, Nat.le_zero_eq, and_self, and_false, false_and, ite_true, ite_false, Nat.zero_le, List.length_cons, List.length_nil, Option.some.injEq, forall_eq', reduceCtorEq, hm, c1, hin, hcl, hr1, hin2, hcl2, spe_X11_into, hx3, hI, qo, n_succ, zk_un_un, hINF])
          exact ih2
    have f0 := first (m_act J N).length 0 (N1 47) (by omega) (fun i hi h => absurd h (Nat.not_lt_zero i))
    rw [zk_un_self N1 47] at f0
    exact f0
  (refine hG 900 _ _ _ _ ?_; simp only [r_X11_solve, r_X11_solve_1, r_X11_solve_2, r_X11_solve_3, zk_kl_none, zk_kl_int, zk_kl_ref, zk_kl_null, zk_kl_long, zk_kl_rf, zk_isr_ref, zk_isr_null, zk_isr_rf9, zk_c1_int, zk_c1_ref, zk_c1_null, zk_c1_rf, zk_psh_some, zk_psh_none, zk_nok_int, zk_nok_bool0, zk_nok_bool1, zk_nok_b, zk_fok_0, zk_fok_1, zk_fok_2, zk_fok_n, zk_fok_rf, zb_f, zb_p, zb_i, zb_a, zb_s, zk_nth_0, zk_nth_s, zk_fld_o, zk_put_o, zk_rv_eq, zk_ri_eq, zk_is_o, List.mem_cons, List.not_mem_nil, or_false, false_or, or_true, true_or, and_true, true_and, not_false_iff, not_true_eq_false, true_implies, false_implies, imp_self, implies_true, forall_const, zk_lit, zk_uj_ap, zk_un_ap, zk_un_un, zk_uj_uj, Nat.reduceEqDiff, eq_self, zk_bq, Bool.true_or, Bool.false_or, Nat.le_refl, Nat.zero_add, Nat.add_zero, Nat.reduceAdd, Nat.reduceLeDiff, Nat.le_zero_eq, and_self, and_false, false_and, ite_true, ite_false, Nat.zero_le, List.length_cons, List.length_nil, Option.some.injEq, forall_eq', reduceCtorEq, spe_X11_collect, hms])
  exact key _ _ rfl ((SE.refl J N).uj (by decide) |>.un (by decide)) ⟨rfl, hlen, fun k hk => m_row_at hk⟩
theorem ct_X11_solve {l : Launch} (hl : l.stackTraces = false) (E : zk_E) : zk_C l E (zk_VT E) yX11_solve cX11_solve 5 (none) rm_X11_solve (sp_X11_solve E) := by
  refine zk_meth (M := M_X11_solve) (C := C_X11_solve E) hl (by decide +kernel) rfl (fun _ _ => rfl) (zk_VT_ok E) MO_X11_solve TO_X11_solve THo_X11_solve ?_ (vc_X11_solve E)
  exact fun p e s m args below meth c X pc n mc ms sp2 h => by
    have h2 := zk_lka_mem h
    simp only [List.mem_cons, List.not_mem_nil, or_false, Prod.mk.injEq] at h2
    rcases h2 with ⟨rfl, rfl, rfl, rfl, rfl⟩ | ⟨rfl, rfl, rfl, rfl, rfl⟩ | ⟨rfl, rfl, rfl, rfl, rfl⟩ | ⟨rfl, rfl, rfl, rfl, rfl⟩ | ⟨rfl, rfl, rfl, rfl, rfl⟩ | ⟨rfl, rfl, rfl, rfl, rfl⟩ | ⟨rfl, rfl, rfl, rfl, rfl⟩ | ⟨rfl, rfl, rfl, rfl, rfl⟩ | ⟨rfl, rfl, rfl, rfl, rfl⟩
    · exact zk_coV (idx := 210) X (ct_X11_collect hl E) (List.forall_mem_cons.mpr ⟨zk_wi 1231 (by decide +kernel) rfl, List.forall_mem_cons.mpr ⟨zk_wi 1233 (by decide +kernel) rfl, List.forall_mem_cons.mpr ⟨zk_wp 25 (by decide +kernel) rfl, List.forall_mem_cons.mpr ⟨zk_wi 6 (by decide +kernel) rfl, List.forall_mem_cons.mpr ⟨zk_wi 1234 (by decide +kernel) rfl, fun _ h => absurd h List.not_mem_nil⟩⟩⟩⟩⟩) (fun ci h => by
      have h := Nat.eq_of_beq_eq_true h
      subst h
      exact ⟨_, _, rfl⟩) (by decide +kernel) ⟨by decide, by decide, by decide +kernel⟩ ⟨by decide, by decide⟩
    · exact zk_coV (idx := 213) X (ct_X11_into hl E) (List.forall_mem_cons.mpr ⟨zk_wi 1239 (by decide +kernel) rfl, List.forall_mem_cons.mpr ⟨zk_wi 1241 (by decide +kernel) rfl, List.forall_mem_cons.mpr ⟨zk_wp 27 (by decide +kernel) rfl, List.forall_mem_cons.mpr ⟨zk_wi 6 (by decide +kernel) rfl, List.forall_mem_cons.mpr ⟨zk_wi 1242 (by decide +kernel) rfl, fun _ h => absurd h List.not_mem_nil⟩⟩⟩⟩⟩) (fun ci h => by
      have h := Nat.eq_of_beq_eq_true h
      subst h
      exact ⟨_, _, rfl⟩) (by decide +kernel) ⟨by decide, by decide, by decide +kernel⟩ ⟨by decide, by decide⟩
    · exact zk_coV (idx := 213) X (ct_X11_into hl E) (List.forall_mem_cons.mpr ⟨zk_wi 1239 (by decide +kernel) rfl, List.forall_mem_cons.mpr ⟨zk_wi 1241 (by decide +kernel) rfl, List.forall_mem_cons.mpr ⟨zk_wp 27 (by decide +kernel) rfl, List.forall_mem_cons.mpr ⟨zk_wi 6 (by decide +kernel) rfl, List.forall_mem_cons.mpr ⟨zk_wi 1242 (by decide +kernel) rfl, fun _ h => absurd h List.not_mem_nil⟩⟩⟩⟩⟩) (fun ci h => by
      have h := Nat.eq_of_beq_eq_true h
      subst h
      exact ⟨_, _, rfl⟩) (by decide +kernel) ⟨by decide, by decide, by decide +kernel⟩ ⟨by decide, by decide⟩
    · exact zk_coV (idx := 213) X (ct_X11_into hl E) (List.forall_mem_cons.mpr ⟨zk_wi 1239 (by decide +kernel) rfl, List.forall_mem_cons.mpr ⟨zk_wi 1241 (by decide +kernel) rfl, List.forall_mem_cons.mpr ⟨zk_wp 27 (by decide +kernel) rfl, List.forall_mem_cons.mpr ⟨zk_wi 6 (by decide +kernel) rfl, List.forall_mem_cons.mpr ⟨zk_wi 1242 (by decide +kernel) rfl, fun _ h => absurd h List.not_mem_nil⟩⟩⟩⟩⟩) (fun ci h => by
      have h := Nat.eq_of_beq_eq_true h
      subst h
      exact ⟨_, _, rfl⟩) (by decide +kernel) ⟨by decide, by decide, by decide +kernel⟩ ⟨by decide, by decide⟩
    · exact zk_coV (idx := 192) X (ct_X11_pointX hl E) (List.forall_mem_cons.mpr ⟨zk_wi 1244 (by decide +kernel) rfl, List.forall_mem_cons.mpr ⟨zk_wi 1246 (by decide +kernel) rfl, List.forall_mem_cons.mpr ⟨zk_wp 28 (by decide +kernel) rfl, List.forall_mem_cons.mpr ⟨zk_wi 6 (by decide +kernel) rfl, List.forall_mem_cons.mpr ⟨zk_wi 1247 (by decide +kernel) rfl, fun _ h => absurd h List.not_mem_nil⟩⟩⟩⟩⟩) (fun ci h => by
      have h := Nat.eq_of_beq_eq_true h
      subst h
      exact ⟨_, _, rfl⟩) (by decide +kernel) ⟨by decide, by decide, by decide +kernel⟩ ⟨by decide, by decide⟩
    · exact zk_coV (idx := 198) X (ct_X11_pointY hl E) (List.forall_mem_cons.mpr ⟨zk_wi 1248 (by decide +kernel) rfl, List.forall_mem_cons.mpr ⟨zk_wi 1250 (by decide +kernel) rfl, List.forall_mem_cons.mpr ⟨zk_wp 29 (by decide +kernel) rfl, List.forall_mem_cons.mpr ⟨zk_wi 6 (by decide +kernel) rfl, List.forall_mem_cons.mpr ⟨zk_wi 1251 (by decide +kernel) rfl, fun _ h => absurd h List.not_mem_nil⟩⟩⟩⟩⟩) (fun ci h => by
      have h := Nat.eq_of_beq_eq_true h
      subst h
      exact ⟨_, _, rfl⟩) (by decide +kernel) ⟨by decide, by decide, by decide +kernel⟩ ⟨by decide, by decide⟩
    · exact zk_coV (idx := 216) X (ct_X11_least hl E) (List.forall_mem_cons.mpr ⟨zk_wi 1252 (by decide +kernel) rfl, List.forall_mem_cons.mpr ⟨zk_wi 1254 (by decide +kernel) rfl, List.forall_mem_cons.mpr ⟨zk_wp 30 (by decide +kernel) rfl, List.forall_mem_cons.mpr ⟨zk_wi 6 (by decide +kernel) rfl, List.forall_mem_cons.mpr ⟨zk_wi 1255 (by decide +kernel) rfl, fun _ h => absurd h List.not_mem_nil⟩⟩⟩⟩⟩) (fun ci h => by
      have h := Nat.eq_of_beq_eq_true h
      subst h
      exact ⟨_, _, rfl⟩) (by decide +kernel) ⟨by decide, by decide, by decide +kernel⟩ ⟨by decide, by decide⟩
    · exact zk_coV (idx := 220) X (ct_X11_leave hl E) (List.forall_mem_cons.mpr ⟨zk_wi 1265 (by decide +kernel) rfl, List.forall_mem_cons.mpr ⟨zk_wi 1267 (by decide +kernel) rfl, List.forall_mem_cons.mpr ⟨zk_wp 33 (by decide +kernel) rfl, List.forall_mem_cons.mpr ⟨zk_wi 6 (by decide +kernel) rfl, List.forall_mem_cons.mpr ⟨zk_wi 1268 (by decide +kernel) rfl, fun _ h => absurd h List.not_mem_nil⟩⟩⟩⟩⟩) (fun ci h => by
      have h := Nat.eq_of_beq_eq_true h
      subst h
      exact ⟨_, _, rfl⟩) (by decide +kernel) ⟨by decide, by decide, by decide +kernel⟩ ⟨by decide, by decide⟩
    · exact zk_coV (idx := 224) X (ct_X11_depthOf hl E) (List.forall_mem_cons.mpr ⟨zk_wi 1269 (by decide +kernel) rfl, List.forall_mem_cons.mpr ⟨zk_wi 1271 (by decide +kernel) rfl, List.forall_mem_cons.mpr ⟨zk_wp 34 (by decide +kernel) rfl, List.forall_mem_cons.mpr ⟨zk_wi 6 (by decide +kernel) rfl, List.forall_mem_cons.mpr ⟨zk_wi 1272 (by decide +kernel) rfl, fun _ h => absurd h List.not_mem_nil⟩⟩⟩⟩⟩) (fun ci h => by
      have h := Nat.eq_of_beq_eq_true h
      subst h
      exact ⟨_, _, rfl⟩) (by decide +kernel) ⟨by decide, by decide, by decide +kernel⟩ ⟨by decide, by decide⟩

