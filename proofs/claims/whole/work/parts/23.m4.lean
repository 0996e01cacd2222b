/-! least over a list; the reference's invariant; its least -/
def INF : Nat := 268435456
def fmin (c : Nat → Bool) (f : Nat → Nat) (L : List Nat) (b : Nat) : Nat := L.foldl (fun b e => if c e then min b (f e) else b) b
theorem fmin_app (c : Nat → Bool) (f : Nat → Nat) (L : List Nat) (e b : Nat) : fmin c f (L ++ [e]) b = if c e then min (fmin c f L b) (f e) else fmin c f L b := by
  unfold fmin
  rw [List.foldl_append]
  rfl
theorem fmin_le (c : Nat → Bool) (f : Nat → Nat) (t : Nat) : ∀ (L : List Nat) (b : Nat), fmin c f L b ≤ t ↔ b ≤ t ∨ ∃ e ∈ L, c e = true ∧ f e ≤ t
  | [], b => by simp [fmin]
  | e :: L, b => by
    have ih := fmin_le c f t L (if c e then min b (f e) else b)
    have : fmin c f (e :: L) b = fmin c f L (if c e then min b (f e) else b) := rfl
    rw [this, ih]
    by_cases h : c e = true
    · rw [if_pos h]
      constructor
      · rintro (h1 | ⟨x, h1, h2⟩)
        · rcases Nat.le_total b (f e) with q | q
          · rw [Nat.min_eq_left q] at h1; exact Or.inl h1
          · rw [Nat.min_eq_right q] at h1; exact Or.inr ⟨e, List.mem_cons_self, h, h1⟩
        · exact Or.inr ⟨x, List.mem_cons_of_mem _ h1, h2⟩
      · rintro (h1 | ⟨x, h1, h2⟩)
        · exact Or.inl (Nat.le_trans (Nat.min_le_left _ _) h1)
        · rcases List.mem_cons.mp h1 with rfl | h1
          · exact Or.inl (Nat.le_trans (Nat.min_le_right _ _) h2.2)
          · exact Or.inr ⟨x, h1, h2⟩
    · rw [if_neg h]
      constructor
      · rintro (h1 | ⟨x, h1, h2⟩)
        · exact Or.inl h1
        · exact Or.inr ⟨x, List.mem_cons_of_mem _ h1, h2⟩
      · rintro (h1 | ⟨x, h1, h2⟩)
        · exact Or.inl h1
        · rcases List.mem_cons.mp h1 with rfl | h1
          · exact absurd h2.1 h
          · exact Or.inr ⟨x, h1, h2⟩
theorem nat_eq_of_le {a b : Nat} (h : ∀ t, a ≤ t ↔ b ≤ t) : a = b := Nat.le_antisymm ((h b).mpr (Nat.le_refl _)) ((h a).mp (Nat.le_refl _))
theorem fmin_le_init (c : Nat → Bool) (f : Nat → Nat) (L : List Nat) (b : Nat) : fmin c f L b ≤ b := (fmin_le c f b L b).mpr (Or.inl (Nat.le_refl _))
/-- how far, both ways together -/
def dN (a b x y : Nat) : Nat := ((a - x) + (x - a)) + ((b - y) + (y - b))
theorem n_absd {a x : Nat} (ha : a < 2 ^ 30) (hx : x < 2 ^ 30) : i_abs (nI a - nI x) = nI ((a - x) + (x - a)) := by
  unfold i_abs
  rcases Nat.le_total x a with h | h
  · rw [pk_sub h, if_pos (nI_pos' (by omega))]
    congr 1
    omega
  · have e1 : nI a - nI x = 0 - nI (x - a) := by
      rw [show nI x = nI (a + (x - a)) by rw [show a + (x - a) = x by omega], ← nI_add]
      apply Int32.toBitVec_inj.mp
      simp [Int32.toBitVec_sub, Int32.toBitVec_add]
      bv_omega
    rcases Nat.eq_or_lt_of_le h with q | q
    · subst q
      rw [show nI a - nI a = nI 0 from pk_sub (Nat.le_refl a) |>.trans (by rw [Nat.sub_self]), if_pos (nI_pos' (by decide))]
      congr 1
      omega
    · have e2 : ¬ (0 : Int32) ≤ nI a - nI x := by
        rw [Int32.le_iff_toInt_le, pk_sub_toInt ha hx]
        show ¬ (0 : Int) ≤ _
        omega
      rw [if_neg e2, e1]
      have e3 : (0 : Int32) - (0 - nI (x - a)) = nI (x - a) := by
        apply Int32.toBitVec_inj.mp
        simp [Int32.toBitVec_sub]
      rw [e3]
      congr 1
      omega
theorem n_min {a b : Nat} (ha : a < 2 ^ 31) (hb : b < 2 ^ 31) : i_min (nI a) (nI b) = nI (min a b) := by
  unfold i_min
  by_cases h : b < a
  · rw [if_pos (nI_lt h (by omega)), Nat.min_eq_right (by omega)]
  · rw [if_neg (nI_nlt (by omega) (by omega)), Nat.min_eq_left (by omega)]
theorem n_max {a b : Nat} (ha : a < 2 ^ 31) (hb : b < 2 ^ 31) : i_max (nI a) (nI b) = nI (max a b) := by
  unfold i_max
  by_cases h : a < b
  · rw [if_pos (nI_lt h (by omega)), Nat.max_eq_right (by omega)]
  · rw [if_neg (nI_nlt (by omega) (by omega)), Nat.max_eq_left (by omega)]
def g_v (N : Nat → Nat → Int32) (e : Nat) : Nat := (N 47 e).toNatClampNeg
def g_x (N : Nat → Nat → Int32) (e : Nat) : Nat := (m_px N e).toNatClampNeg
def g_y (N : Nat → Nat → Int32) (e : Nat) : Nat := (m_py N e).toNatClampNeg
/-- an exit's point is where it can be -/
def GX (N : Nat → Nat → Int32) (e : Nat) : Prop := (m_px N e = nI (g_x N e) ∧ g_x N e ≤ 400) ∧ (m_py N e = nI (g_y N e) ∧ g_y N e ≤ 400)
theorem m_dist_n {N : Nat → Nat → Int32} {e x y : Nat} (h : GX N e) (hx : x ≤ 400) (hy : y ≤ 400) : m_dist N e (nI x) (nI y) = nI (dN (g_x N e) (g_y N e) x y) := by
  obtain ⟨⟨h1, h2⟩, h3, h4⟩ := h
  unfold m_dist dN
  rw [h1, h3, n_absd (by omega) (by omega), n_absd (by omega) (by omega), n_add]
theorem dN_le {a b x y : Nat} (ha : a ≤ 400) (hb : b ≤ 400) (hx : x ≤ 400) (hy : y ≤ 400) : dN a b x y ≤ 800 := by unfold dN; omega
/-- the row is told, the ways are numbers -/
def RW (J N : Nat → Nat → Int32) (L : List Nat) : Prop := J 22 35 = nI L.length ∧ L.length ≤ 100 ∧ ∀ (k : Nat) (h : k < L.length), N 52 k = nI L[k]
def VW (J N : Nat → Nat → Int32) : Prop := ∀ e ∈ m_act J N, (N 47 e = nI (g_v N e) ∧ g_v N e ≤ INF) ∧ GX N e
def g_c (J N : Nat → Nat → Int32) (room but : Int32) (v : Nat → Nat) (e : Nat) : Bool := decide (¬ nI (e / 2) = but) && (decide (m_from J N e = room) && decide (v e < INF))
def g_f (N : Nat → Nat → Int32) (v : Nat → Nat) (x y e : Nat) : Nat := dN (g_x N e) (g_y N e) x y + v e
def g_least (J N : Nat → Nat → Int32) (v : Nat → Nat) (room but : Int32) (x y : Nat) : Nat := fmin (g_c J N room but v) (g_f N v x y) (m_act J N) INF
def sp_X11_least (E : zk_E) : zk_Sp zk_S := fun av σ sz P PX => match av with
  | [.ref a, .int r, .int b, .int px, .int py] => a = zk_ad E 22 ∧ MS σ.1 ∧ RW σ.1 σ.2.1 (m_act σ.1 σ.2.1) ∧ VW σ.1 σ.2.1 ∧ (∃ x y, x ≤ 400 ∧ y ≤ 400 ∧ px = nI x ∧ py = nI y) ∧ P (some (.int (nI (g_least σ.1 σ.2.1 (g_v σ.2.1) r b px.toNatClampNeg py.toNatClampNeg)))) σ sz
  | _ => False
theorem spe_X11_least (E : zk_E) (a : Nat) (r : Int32) (b : Int32) (px : Int32) (py : Int32) (σ : zk_S) (sz : Nat) (P : zk_P zk_S) (PX : zk_X zk_S) : sp_X11_least E [.ref a, .int r, .int b, .int px, .int py] σ sz P PX = (a = zk_ad E 22 ∧ MS σ.1 ∧ RW σ.1 σ.2.1 (m_act σ.1 σ.2.1) ∧ VW σ.1 σ.2.1 ∧ (∃ x y, x ≤ 400 ∧ y ≤ 400 ∧ px = nI x ∧ py = nI y) ∧ P (some (.int (nI (g_least σ.1 σ.2.1 (g_v σ.2.1) r b px.toNatClampNeg py.toNatClampNeg)))) σ sz) := propext Iff.rfl
def C_X11_least (E : zk_E) : zk_Cl zk_S := zk_lka [(38, 3, 0, 0, zk_rv (zk_VT E) (fun ci => Nat.beq ci 10) (sp_X11_isExit E)), (74, 4, 0, 0, zk_rv (zk_VT E) (fun ci => Nat.beq ci 10) (sp_X11_distance E))]
theorem r_X11_least (E : zk_E) (P : zk_P zk_S) (PX : zk_X zk_S) (K : Nat → zk_L → List Value → zk_W zk_S → Prop) : (∀ (n : Nat) (l0 l1 l2 l3 l4 l5 l6 : Option Value)  (r : List Value) (σ : zk_S) (sz k c : Nat), zk_run E (zk_VT E) M_X11_least (C_X11_least E) P PX K (n + 1) 0 [l0, l1, l2, l3, l4, l5, l6] r (σ, sz, k, c) = zk_run E (zk_VT E) M_X11_least (C_X11_least E) P PX K n 2 [l0, l1, l2, l3, l4, l5, l6] (.int (268435456) :: r) (σ, sz, k, c)) ∧
  (∀ (n : Nat) (l0 l1 l2 l3 l4 l5 l6 : Option Value) (x : Int32) (r : List Value) (σ : zk_S) (sz k c : Nat), zk_run E (zk_VT E) M_X11_least (C_X11_least E) P PX K (n + 1) 2 [l0, l1, l2, l3, l4, l5, l6] (.int x :: r) (σ, sz, k, c) = zk_run E (zk_VT E) M_X11_least (C_X11_least E) P PX K n 4 [l0, l1, l2, l3, zk_kl l4, some (.int x), l6] r (σ, sz, k, c)) ∧
  (∀ (n : Nat) (l0 l1 l2 l3 l4 l5 l6 : Option Value)  (r : List Value) (σ : zk_S) (sz k c : Nat), zk_run E (zk_VT E) M_X11_least (C_X11_least E) P PX K (n + 1) 4 [l0, l1, l2, l3, l4, l5, l6] r (σ, sz, k, c) = zk_run E (zk_VT E) M_X11_least (C_X11_least E) P PX K n 5 [l0, l1, l2, l3, l4, l5, l6] (.int (0) :: r) (σ, sz, k, c)) ∧
  (∀ (n : Nat) (l0 l1 l2 l3 l4 l5 l6 : Option Value) (x : Int32) (r : List Value) (σ : zk_S) (sz k c : Nat), zk_run E (zk_VT E) M_X11_least (C_X11_least E) P PX K (n + 1) 5 [l0, l1, l2, l3, l4, l5, l6] (.int x :: r) (σ, sz, k, c) = zk_run E (zk_VT E) M_X11_least (C_X11_least E) P PX K n 7 [l0, l1, l2, l3, l4, zk_kl l5, some (.int x)] r (σ, sz, k, c)) ∧
  (∀ (n : Nat) (l0 l1 l2 l3 l4 l5 l6 : Option Value)  (r : List Value) (σ : zk_S) (sz k c : Nat), zk_run E (zk_VT E) M_X11_least (C_X11_least E) P PX K (n + 1) 7 [l0, l1, l2, l3, l4, l5, l6] r (σ, sz, k, c) = K 7 [l0, l1, l2, l3, l4, l5, l6] r (σ, sz, k, c)) ∧
  (∀ (n : Nat) (l1 l2 l3 l4 l5 l6 : Option Value) (y0 : Value) (r : List Value) (σ : zk_S) (sz k c : Nat), zk_run E (zk_VT E) M_X11_least (C_X11_least E) P PX K (n + 1) 9 [some y0, l1, l2, l3, l4, l5, l6] r (σ, sz, k, c) = (zk_isr y0 ∧ zk_run E (zk_VT E) M_X11_least (C_X11_least E) P PX K n 10 [some y0, l1, l2, l3, l4, l5, l6] (y0 :: r) (σ, sz, k, c))) ∧
  (∀ (n : Nat) (l0 l1 l2 l3 l4 l5 l6 : Option Value) (a : Nat) (r : List Value) (σ : zk_S) (sz k c : Nat), zk_run E (zk_VT E) M_X11_least (C_X11_least E) P PX K (n + 1) 10 [l0, l1, l2, l3, l4, l5, l6] (.ref a :: r) (σ, sz, k, c) = zk_fld (zk_view E σ a) [10] 35 (fun v => zk_run E (zk_VT E) M_X11_least (C_X11_least E) P PX K n 13 [l0, l1, l2, l3, l4, l5, l6] (v :: r) (σ, sz, k, c))) ∧
  (∀ (n : Nat) (l0 l1 l2 l3 l4 l5 l6 : Option Value) (x y : Int32) (r : List Value) (σ : zk_S) (sz k c : Nat), zk_run E (zk_VT E) M_X11_least (C_X11_least E) P PX K (n + 1) 13 [l0, l1, l2, l3, l4, l5, l6] (.int y :: .int x :: r) (σ, sz, k, c) = ((y ≤ x → zk_run E (zk_VT E) M_X11_least (C_X11_least E) P PX K n 101 [l0, l1, l2, l3, l4, l5, l6] r (σ, sz, k, c)) ∧ (¬ (y ≤ x) → zk_run E (zk_VT E) M_X11_least (C_X11_least E) P PX K n 16 [l0, l1, l2, l3, l4, l5, l6] r (σ, sz, k, c)))) ∧
  (∀ (n : Nat) (l1 l2 l3 l4 l5 l6 : Option Value) (y0 : Value) (r : List Value) (σ : zk_S) (sz k c : Nat), zk_run E (zk_VT E) M_X11_least (C_X11_least E) P PX K (n + 1) 16 [some y0, l1, l2, l3, l4, l5, l6] r (σ, sz, k, c) = (zk_isr y0 ∧ zk_run E (zk_VT E) M_X11_least (C_X11_least E) P PX K n 17 [some y0, l1, l2, l3, l4, l5, l6] (y0 :: r) (σ, sz, k, c))) ∧
  (∀ (n : Nat) (l0 l1 l2 l3 l4 l5 l6 : Option Value) (a : Nat) (r : List Value) (σ : zk_S) (sz k c : Nat), zk_run E (zk_VT E) M_X11_least (C_X11_least E) P PX K (n + 1) 17 [l0, l1, l2, l3, l4, l5, l6] (.ref a :: r) (σ, sz, k, c) = zk_fld (zk_view E σ a) [10] 36 (fun v => zk_run E (zk_VT E) M_X11_least (C_X11_least E) P PX K n 20 [l0, l1, l2, l3, l4, l5, l6] (v :: r) (σ, sz, k, c))) ∧
  (∀ (n : Nat) (l0 l1 l2 l3 l4 l5 : Option Value) (y6 : Int32) (r : List Value) (σ : zk_S) (sz k c : Nat), zk_run E (zk_VT E) M_X11_least (C_X11_least E) P PX K (n + 1) 20 [l0, l1, l2, l3, l4, l5, some (.int y6)] r (σ, sz, k, c) = zk_run E (zk_VT E) M_X11_least (C_X11_least E) P PX K n 22 [l0, l1, l2, l3, l4, l5, some (.int y6)] (.int y6 :: r) (σ, sz, k, c)) ∧
  (∀ (n : Nat) (l0 l1 l2 l3 l4 l5 l6 : Option Value) (a : Nat) (i : Int32) (r : List Value) (σ : zk_S) (sz k c : Nat), zk_run E (zk_VT E) M_X11_least (C_X11_least E) P PX K (n + 1) 22 [l0, l1, l2, l3, l4, l5, l6] (.int i :: .ref a :: r) (σ, sz, k, c) = zk_ild (zk_view E σ a) (zk_ar E 0) i (fun x => zk_run E (zk_VT E) M_X11_least (C_X11_least E) P PX K n 23 [l0, l1, l2, l3, l4, l5, l6] (.int x :: r) (σ, sz, k, c))) ∧
  (∀ (n : Nat) (l0 l1 l2 l3 l4 l5 l6 : Option Value)  (r : List Value) (σ : zk_S) (sz k c : Nat), zk_run E (zk_VT E) M_X11_least (C_X11_least E) P PX K (n + 1) 23 [l0, l1, l2, l3, l4, l5, l6] r (σ, sz, k, c) = zk_run E (zk_VT E) M_X11_least (C_X11_least E) P PX K n 24 [l0, l1, l2, l3, l4, l5, l6] (.int (2) :: r) (σ, sz, k, c)) ∧
  (∀ (n : Nat) (l0 l1 l2 l3 l4 l5 l6 : Option Value) (x y : Int32) (r : List Value) (σ : zk_S) (sz k c : Nat), zk_run E (zk_VT E) M_X11_least (C_X11_least E) P PX K (n + 1) 24 [l0, l1, l2, l3, l4, l5, l6] (.int y :: .int x :: r) (σ, sz, k, c) = (¬ y = 0 ∧ zk_run E (zk_VT E) M_X11_least (C_X11_least E) P PX K n 25 [l0, l1, l2, l3, l4, l5, l6] (.int (x / y) :: r) (σ, sz, k, c))) ∧
  (∀ (n : Nat) (l0 l1 l3 l4 l5 l6 : Option Value) (y2 : Int32) (r : List Value) (σ : zk_S) (sz k c : Nat), zk_run E (zk_VT E) M_X11_least (C_X11_least E) P PX K (n + 1) 25 [l0, l1, some (.int y2), l3, l4, l5, l6] r (σ, sz, k, c) = zk_run E (zk_VT E) M_X11_least (C_X11_least E) P PX K n 26 [l0, l1, some (.int y2), l3, l4, l5, l6] (.int y2 :: r) (σ, sz, k, c)) ∧
  (∀ (n : Nat) (l0 l1 l2 l3 l4 l5 l6 : Option Value) (x y : Int32) (r : List Value) (σ : zk_S) (sz k c : Nat), zk_run E (zk_VT E) M_X11_least (C_X11_least E) P PX K (n + 1) 26 [l0, l1, l2, l3, l4, l5, l6] (.int y :: .int x :: r) (σ, sz, k, c) = ((x = y → zk_run E (zk_VT E) M_X11_least (C_X11_least E) P PX K n 95 [l0, l1, l2, l3, l4, l5, l6] r (σ, sz, k, c)) ∧ (¬ (x = y) → zk_run E (zk_VT E) M_X11_least (C_X11_least E) P PX K n 29 [l0, l1, l2, l3, l4, l5, l6] r (σ, sz, k, c)))) ∧
  (∀ (n : Nat) (l1 l2 l3 l4 l5 l6 : Option Value) (y0 : Value) (r : List Value) (σ : zk_S) (sz k c : Nat), zk_run E (zk_VT E) M_X11_least (C_X11_least E) P PX K (n + 1) 29 [some y0, l1, l2, l3, l4, l5, l6] r (σ, sz, k, c) = (zk_isr y0 ∧ zk_run E (zk_VT E) M_X11_least (C_X11_least E) P PX K n 30 [some y0, l1, l2, l3, l4, l5, l6] (y0 :: r) (σ, sz, k, c))) ∧
  (∀ (n : Nat) (l1 l2 l3 l4 l5 l6 : Option Value) (y0 : Value) (r : List Value) (σ : zk_S) (sz k c : Nat), zk_run E (zk_VT E) M_X11_least (C_X11_least E) P PX K (n + 1) 30 [some y0, l1, l2, l3, l4, l5, l6] r (σ, sz, k, c) = (zk_isr y0 ∧ zk_run E (zk_VT E) M_X11_least (C_X11_least E) P PX K n 31 [some y0, l1, l2, l3, l4, l5, l6] (y0 :: r) (σ, sz, k, c))) ∧
  (∀ (n : Nat) (l0 l1 l2 l3 l4 l5 l6 : Option Value) (a : Nat) (r : List Value) (σ : zk_S) (sz k c : Nat), zk_run E (zk_VT E) M_X11_least (C_X11_least E) P PX K (n + 1) 31 [l0, l1, l2, l3, l4, l5, l6] (.ref a :: r) (σ, sz, k, c) = zk_fld (zk_view E σ a) [10] 36 (fun v => zk_run E (zk_VT E) M_X11_least (C_X11_least E) P PX K n 34 [l0, l1, l2, l3, l4, l5, l6] (v :: r) (σ, sz, k, c))) ∧
  (∀ (n : Nat) (l0 l1 l2 l3 l4 l5 : Option Value) (y6 : Int32) (r : List Value) (σ : zk_S) (sz k c : Nat), zk_run E (zk_VT E) M_X11_least (C_X11_least E) P PX K (n + 1) 34 [l0, l1, l2, l3, l4, l5, some (.int y6)] r (σ, sz, k, c) = zk_run E (zk_VT E) M_X11_least (C_X11_least E) P PX K n 36 [l0, l1, l2, l3, l4, l5, some (.int y6)] (.int y6 :: r) (σ, sz, k, c)) ∧
  (∀ (n : Nat) (l0 l1 l2 l3 l4 l5 l6 : Option Value) (a : Nat) (i : Int32) (r : List Value) (σ : zk_S) (sz k c : Nat), zk_run E (zk_VT E) M_X11_least (C_X11_least E) P PX K (n + 1) 36 [l0, l1, l2, l3, l4, l5, l6] (.int i :: .ref a :: r) (σ, sz, k, c) = zk_ild (zk_view E σ a) (zk_ar E 0) i (fun x => zk_run E (zk_VT E) M_X11_least (C_X11_least E) P PX K n 37 [l0, l1, l2, l3, l4, l5, l6] (.int x :: r) (σ, sz, k, c))) ∧
  (∀ (n : Nat) (l0 l2 l3 l4 l5 l6 : Option Value) (y1 : Int32) (r : List Value) (σ : zk_S) (sz k c : Nat), zk_run E (zk_VT E) M_X11_least (C_X11_least E) P PX K (n + 1) 37 [l0, some (.int y1), l2, l3, l4, l5, l6] r (σ, sz, k, c) = zk_run E (zk_VT E) M_X11_least (C_X11_least E) P PX K n 38 [l0, some (.int y1), l2, l3, l4, l5, l6] (.int y1 :: r) (σ, sz, k, c)) ∧
  (∀ (n : Nat) (l0 l1 l2 l3 l4 l5 l6 : Option Value) (v0 : Value) (v1 : Value) (v2 : Value)  (σ : zk_S) (sz k c : Nat), zk_run E (zk_VT E) M_X11_least (C_X11_least E) P PX K (n + 1) 38 [l0, l1, l2, l3, l4, l5, l6] [v0, v1, v2] (σ, sz, k, c) = (k + 0 ≤ 0 ∧ c + 0 ≤ 0 ∧ (zk_rv (zk_VT E) (fun ci => Nat.beq ci 10) (sp_X11_isExit E)) [v2, v1, v0] σ sz (fun v s2 z2 => zk_run E (zk_VT E) M_X11_least (C_X11_least E) P PX K n 41 [l0, l1, l2, l3, l4, l5, l6] (zk_psh v []) (s2, z2, k + 0, c + 0)) (fun X s2 z2 => PX X s2 z2))) ∧
  (∀ (n : Nat) (l0 l1 l2 l3 l4 l5 l6 : Option Value) (x : Int32) (r : List Value) (σ : zk_S) (sz k c : Nat), zk_run E (zk_VT E) M_X11_least (C_X11_least E) P PX K (n + 1) 41 [l0, l1, l2, l3, l4, l5, l6] (.int x :: r) (σ, sz, k, c) = ((x = 0 → zk_run E (zk_VT E) M_X11_least (C_X11_least E) P PX K n 95 [l0, l1, l2, l3, l4, l5, l6] r (σ, sz, k, c)) ∧ (¬ (x = 0) → zk_run E (zk_VT E) M_X11_least (C_X11_least E) P PX K n 44 [l0, l1, l2, l3, l4, l5, l6] r (σ, sz, k, c)))) ∧
  (∀ (n : Nat) (l1 l2 l3 l4 l5 l6 : Option Value) (y0 : Value) (r : List Value) (σ : zk_S) (sz k c : Nat), zk_run E (zk_VT E) M_X11_least (C_X11_least E) P PX K (n + 1) 44 [some y0, l1, l2, l3, l4, l5, l6] r (σ, sz, k, c) = (zk_isr y0 ∧ zk_run E (zk_VT E) M_X11_least (C_X11_least E) P PX K n 45 [some y0, l1, l2, l3, l4, l5, l6] (y0 :: r) (σ, sz, k, c))) ∧
  (∀ (n : Nat) (l0 l1 l2 l3 l4 l5 l6 : Option Value) (a : Nat) (r : List Value) (σ : zk_S) (sz k c : Nat), zk_run E (zk_VT E) M_X11_least (C_X11_least E) P PX K (n + 1) 45 [l0, l1, l2, l3, l4, l5, l6] (.ref a :: r) (σ, sz, k, c) = zk_fld (zk_view E σ a) [10] 29 (fun v => zk_run E (zk_VT E) M_X11_least (C_X11_least E) P PX K n 48 [l0, l1, l2, l3, l4, l5, l6] (v :: r) (σ, sz, k, c))) ∧
  (∀ (n : Nat) (l1 l2 l3 l4 l5 l6 : Option Value) (y0 : Value) (r : List Value) (σ : zk_S) (sz k c : Nat), zk_run E (zk_VT E) M_X11_least (C_X11_least E) P PX K (n + 1) 48 [some y0, l1, l2, l3, l4, l5, l6] r (σ, sz, k, c) = (zk_isr y0 ∧ zk_run E (zk_VT E) M_X11_least (C_X11_least E) P PX K n 49 [some y0, l1, l2, l3, l4, l5, l6] (y0 :: r) (σ, sz, k, c))) ∧
  (∀ (n : Nat) (l0 l1 l2 l3 l4 l5 l6 : Option Value) (a : Nat) (r : List Value) (σ : zk_S) (sz k c : Nat), zk_run E (zk_VT E) M_X11_least (C_X11_least E) P PX K (n + 1) 49 [l0, l1, l2, l3, l4, l5, l6] (.ref a :: r) (σ, sz, k, c) = zk_fld (zk_view E σ a) [10] 36 (fun v => zk_run E (zk_VT E) M_X11_least (C_X11_least E) P PX K n 52 [l0, l1, l2, l3, l4, l5, l6] (v :: r) (σ, sz, k, c))) ∧
  (∀ (n : Nat) (l0 l1 l2 l3 l4 l5 : Option Value) (y6 : Int32) (r : List Value) (σ : zk_S) (sz k c : Nat), zk_run E (zk_VT E) M_X11_least (C_X11_least E) P PX K (n + 1) 52 [l0, l1, l2, l3, l4, l5, some (.int y6)] r (σ, sz, k, c) = zk_run E (zk_VT E) M_X11_least (C_X11_least E) P PX K n 54 [l0, l1, l2, l3, l4, l5, some (.int y6)] (.int y6 :: r) (σ, sz, k, c)) ∧
  (∀ (n : Nat) (l0 l1 l2 l3 l4 l5 l6 : Option Value) (a : Nat) (i : Int32) (r : List Value) (σ : zk_S) (sz k c : Nat), zk_run E (zk_VT E) M_X11_least (C_X11_least E) P PX K (n + 1) 54 [l0, l1, l2, l3, l4, l5, l6] (.int i :: .ref a :: r) (σ, sz, k, c) = zk_ild (zk_view E σ a) (zk_ar E 0) i (fun x => zk_run E (zk_VT E) M_X11_least (C_X11_least E) P PX K n 55 [l0, l1, l2, l3, l4, l5, l6] (.int x :: r) (σ, sz, k, c))) ∧
  (∀ (n : Nat) (l0 l1 l2 l3 l4 l5 l6 : Option Value) (a : Nat) (i : Int32) (r : List Value) (σ : zk_S) (sz k c : Nat), zk_run E (zk_VT E) M_X11_least (C_X11_least E) P PX K (n + 1) 55 [l0, l1, l2, l3, l4, l5, l6] (.int i :: .ref a :: r) (σ, sz, k, c) = zk_ild (zk_view E σ a) (zk_ar E 0) i (fun x => zk_run E (zk_VT E) M_X11_least (C_X11_least E) P PX K n 56 [l0, l1, l2, l3, l4, l5, l6] (.int x :: r) (σ, sz, k, c))) ∧
  (∀ (n : Nat) (l0 l1 l2 l3 l4 l5 l6 : Option Value)  (r : List Value) (σ : zk_S) (sz k c : Nat), zk_run E (zk_VT E) M_X11_least (C_X11_least E) P PX K (n + 1) 56 [l0, l1, l2, l3, l4, l5, l6] r (σ, sz, k, c) = zk_run E (zk_VT E) M_X11_least (C_X11_least E) P PX K n 58 [l0, l1, l2, l3, l4, l5, l6] (.int (268435456) :: r) (σ, sz, k, c)) ∧
  (∀ (n : Nat) (l0 l1 l2 l3 l4 l5 l6 : Option Value) (x y : Int32) (r : List Value) (σ : zk_S) (sz k c : Nat), zk_run E (zk_VT E) M_X11_least (C_X11_least E) P PX K (n + 1) 58 [l0, l1, l2, l3, l4, l5, l6] (.int y :: .int x :: r) (σ, sz, k, c) = ((y ≤ x → zk_run E (zk_VT E) M_X11_least (C_X11_least E) P PX K n 95 [l0, l1, l2, l3, l4, l5, l6] r (σ, sz, k, c)) ∧ (¬ (y ≤ x) → zk_run E (zk_VT E) M_X11_least (C_X11_least E) P PX K n 61 [l0, l1, l2, l3, l4, l5, l6] r (σ, sz, k, c)))) ∧
  (∀ (n : Nat) (l0 l1 l2 l3 l4 l6 : Option Value) (y5 : Int32) (r : List Value) (σ : zk_S) (sz k c : Nat), zk_run E (zk_VT E) M_X11_least (C_X11_least E) P PX K (n + 1) 61 [l0, l1, l2, l3, l4, some (.int y5), l6] r (σ, sz, k, c) = zk_run E (zk_VT E) M_X11_least (C_X11_least E) P PX K n 63 [l0, l1, l2, l3, l4, some (.int y5), l6] (.int y5 :: r) (σ, sz, k, c)) ∧
  (∀ (n : Nat) (l1 l2 l3 l4 l5 l6 : Option Value) (y0 : Value) (r : List Value) (σ : zk_S) (sz k c : Nat), zk_run E (zk_VT E) M_X11_least (C_X11_least E) P PX K (n + 1) 63 [some y0, l1, l2, l3, l4, l5, l6] r (σ, sz, k, c) = (zk_isr y0 ∧ zk_run E (zk_VT E) M_X11_least (C_X11_least E) P PX K n 64 [some y0, l1, l2, l3, l4, l5, l6] (y0 :: r) (σ, sz, k, c))) ∧
  (∀ (n : Nat) (l1 l2 l3 l4 l5 l6 : Option Value) (y0 : Value) (r : List Value) (σ : zk_S) (sz k c : Nat), zk_run E (zk_VT E) M_X11_least (C_X11_least E) P PX K (n + 1) 64 [some y0, l1, l2, l3, l4, l5, l6] r (σ, sz, k, c) = (zk_isr y0 ∧ zk_run E (zk_VT E) M_X11_least (C_X11_least E) P PX K n 65 [some y0, l1, l2, l3, l4, l5, l6] (y0 :: r) (σ, sz, k, c))) ∧
  (∀ (n : Nat) (l0 l1 l2 l3 l4 l5 l6 : Option Value) (a : Nat) (r : List Value) (σ : zk_S) (sz k c : Nat), zk_run E (zk_VT E) M_X11_least (C_X11_least E) P PX K (n + 1) 65 [l0, l1, l2, l3, l4, l5, l6] (.ref a :: r) (σ, sz, k, c) = zk_fld (zk_view E σ a) [10] 36 (fun v => zk_run E (zk_VT E) M_X11_least (C_X11_least E) P PX K n 68 [l0, l1, l2, l3, l4, l5, l6] (v :: r) (σ, sz, k, c))) ∧
  (∀ (n : Nat) (l0 l1 l2 l3 l4 l5 : Option Value) (y6 : Int32) (r : List Value) (σ : zk_S) (sz k c : Nat), zk_run E (zk_VT E) M_X11_least (C_X11_least E) P PX K (n + 1) 68 [l0, l1, l2, l3, l4, l5, some (.int y6)] r (σ, sz, k, c) = zk_run E (zk_VT E) M_X11_least (C_X11_least E) P PX K n 70 [l0, l1, l2, l3, l4, l5, some (.int y6)] (.int y6 :: r) (σ, sz, k, c)) ∧
  (∀ (n : Nat) (l0 l1 l2 l3 l4 l5 l6 : Option Value) (a : Nat) (i : Int32) (r : List Value) (σ : zk_S) (sz k c : Nat), zk_run E (zk_VT E) M_X11_least (C_X11_least E) P PX K (n + 1) 70 [l0, l1, l2, l3, l4, l5, l6] (.int i :: .ref a :: r) (σ, sz, k, c) = zk_ild (zk_view E σ a) (zk_ar E 0) i (fun x => zk_run E (zk_VT E) M_X11_least (C_X11_least E) P PX K n 71 [l0, l1, l2, l3, l4, l5, l6] (.int x :: r) (σ, sz, k, c))) ∧
  (∀ (n : Nat) (l0 l1 l2 l4 l5 l6 : Option Value) (y3 : Int32) (r : List Value) (σ : zk_S) (sz k c : Nat), zk_run E (zk_VT E) M_X11_least (C_X11_least E) P PX K (n + 1) 71 [l0, l1, l2, some (.int y3), l4, l5, l6] r (σ, sz, k, c) = zk_run E (zk_VT E) M_X11_least (C_X11_least E) P PX K n 72 [l0, l1, l2, some (.int y3), l4, l5, l6] (.int y3 :: r) (σ, sz, k, c)) := ⟨by intros; rfl, by intros; rfl, by intros; rfl, by intros; rfl, by intros; rfl, by intros; rfl, by intros; rfl, by intros; rfl, by intros; rfl, by intros; rfl, by intros; rfl, by intros; rfl, by intros; rfl, by intros; rfl, by intros; rfl, by intros; rfl, by intros; rfl, by intros; rfl, by intros; rfl, by intros; rfl, by intros; rfl, by intros; rfl, by intros; rfl, by intros; rfl, by intros; rfl, by intros; rfl, by intros; rfl, by intros; rfl, by intros; rfl, by intros; rfl, by intros; rfl, by intros; rfl, by intros; rfl, by intros; rfl, by intros; rfl, by intros; rfl, by intros; rfl, by intros; rfl, by intros; rfl, by intros; rfl⟩
theorem r_X11_least_1 (E : zk_E) (P : zk_P zk_S) (PX : zk_X zk_S) (K : Nat → zk_L → List Value → zk_W zk_S → Prop) : (∀ (n : Nat) (l0 l1 l2 l3 l5 l6 : Option Value) (y4 : Int32) (r : List Value) (σ : zk_S) (sz k c : Nat), zk_run E (zk_VT E) M_X11_least (C_X11_least E) P PX K (n + 1) 72 [l0, l1, l2, l3, some (.int y4), l5, l6] r (σ, sz, k, c) = zk_run E (zk_VT E) M_X11_least (C_X11_least E) P PX K n 74 [l0, l1, l2, l3, some (.int y4), l5, l6] (.int y4 :: r) (σ, sz, k, c)) ∧
  (∀ (n : Nat) (l0 l1 l2 l3 l4 l5 l6 : Option Value) (v0 : Value) (v1 : Value) (v2 : Value) (v3 : Value) (v4 : Value)  (σ : zk_S) (sz k c : Nat), zk_run E (zk_VT E) M_X11_least (C_X11_least E) P PX K (n + 1) 74 [l0, l1, l2, l3, l4, l5, l6] [v0, v1, v2, v3, v4] (σ, sz, k, c) = (k + 0 ≤ 0 ∧ c + 0 ≤ 0 ∧ (zk_rv (zk_VT E) (fun ci => Nat.beq ci 10) (sp_X11_distance E)) [v3, v2, v1, v0] σ sz (fun v s2 z2 => zk_run E (zk_VT E) M_X11_least (C_X11_least E) P PX K n 77 [l0, l1, l2, l3, l4, l5, l6] (zk_psh v [v4]) (s2, z2, k + 0, c + 0)) (fun X s2 z2 => PX X s2 z2))) ∧
  (∀ (n : Nat) (l1 l2 l3 l4 l5 l6 : Option Value) (y0 : Value) (r : List Value) (σ : zk_S) (sz k c : Nat), zk_run E (zk_VT E) M_X11_least (C_X11_least E) P PX K (n + 1) 77 [some y0, l1, l2, l3, l4, l5, l6] r (σ, sz, k, c) = (zk_isr y0 ∧ zk_run E (zk_VT E) M_X11_least (C_X11_least E) P PX K n 78 [some y0, l1, l2, l3, l4, l5, l6] (y0 :: r) (σ, sz, k, c))) ∧
  (∀ (n : Nat) (l0 l1 l2 l3 l4 l5 l6 : Option Value) (a : Nat) (r : List Value) (σ : zk_S) (sz k c : Nat), zk_run E (zk_VT E) M_X11_least (C_X11_least E) P PX K (n + 1) 78 [l0, l1, l2, l3, l4, l5, l6] (.ref a :: r) (σ, sz, k, c) = zk_fld (zk_view E σ a) [10] 29 (fun v => zk_run E (zk_VT E) M_X11_least (C_X11_least E) P PX K n 81 [l0, l1, l2, l3, l4, l5, l6] (v :: r) (σ, sz, k, c))) ∧
  (∀ (n : Nat) (l1 l2 l3 l4 l5 l6 : Option Value) (y0 : Value) (r : List Value) (σ : zk_S) (sz k c : Nat), zk_run E (zk_VT E) M_X11_least (C_X11_least E) P PX K (n + 1) 81 [some y0, l1, l2, l3, l4, l5, l6] r (σ, sz, k, c) = (zk_isr y0 ∧ zk_run E (zk_VT E) M_X11_least (C_X11_least E) P PX K n 82 [some y0, l1, l2, l3, l4, l5, l6] (y0 :: r) (σ, sz, k, c))) ∧
  (∀ (n : Nat) (l0 l1 l2 l3 l4 l5 l6 : Option Value) (a : Nat) (r : List Value) (σ : zk_S) (sz k c : Nat), zk_run E (zk_VT E) M_X11_least (C_X11_least E) P PX K (n + 1) 82 [l0, l1, l2, l3, l4, l5, l6] (.ref a :: r) (σ, sz, k, c) = zk_fld (zk_view E σ a) [10] 36 (fun v => zk_run E (zk_VT E) M_X11_least (C_X11_least E) P PX K n 85 [l0, l1, l2, l3, l4, l5, l6] (v :: r) (σ, sz, k, c))) ∧
  (∀ (n : Nat) (l0 l1 l2 l3 l4 l5 : Option Value) (y6 : Int32) (r : List Value) (σ : zk_S) (sz k c : Nat), zk_run E (zk_VT E) M_X11_least (C_X11_least E) P PX K (n + 1) 85 [l0, l1, l2, l3, l4, l5, some (.int y6)] r (σ, sz, k, c) = zk_run E (zk_VT E) M_X11_least (C_X11_least E) P PX K n 87 [l0, l1, l2, l3, l4, l5, some (.int y6)] (.int y6 :: r) (σ, sz, k, c)) ∧
  (∀ (n : Nat) (l0 l1 l2 l3 l4 l5 l6 : Option Value) (a : Nat) (i : Int32) (r : List Value) (σ : zk_S) (sz k c : Nat), zk_run E (zk_VT E) M_X11_least (C_X11_least E) P PX K (n + 1) 87 [l0, l1, l2, l3, l4, l5, l6] (.int i :: .ref a :: r) (σ, sz, k, c) = zk_ild (zk_view E σ a) (zk_ar E 0) i (fun x => zk_run E (zk_VT E) M_X11_least (C_X11_least E) P PX K n 88 [l0, l1, l2, l3, l4, l5, l6] (.int x :: r) (σ, sz, k, c))) ∧
  (∀ (n : Nat) (l0 l1 l2 l3 l4 l5 l6 : Option Value) (a : Nat) (i : Int32) (r : List Value) (σ : zk_S) (sz k c : Nat), zk_run E (zk_VT E) M_X11_least (C_X11_least E) P PX K (n + 1) 88 [l0, l1, l2, l3, l4, l5, l6] (.int i :: .ref a :: r) (σ, sz, k, c) = zk_ild (zk_view E σ a) (zk_ar E 0) i (fun x => zk_run E (zk_VT E) M_X11_least (C_X11_least E) P PX K n 89 [l0, l1, l2, l3, l4, l5, l6] (.int x :: r) (σ, sz, k, c))) ∧
  (∀ (n : Nat) (l0 l1 l2 l3 l4 l5 l6 : Option Value) (x y : Int32) (r : List Value) (σ : zk_S) (sz k c : Nat), zk_run E (zk_VT E) M_X11_least (C_X11_least E) P PX K (n + 1) 89 [l0, l1, l2, l3, l4, l5, l6] (.int y :: .int x :: r) (σ, sz, k, c) = zk_run E (zk_VT E) M_X11_least (C_X11_least E) P PX K n 90 [l0, l1, l2, l3, l4, l5, l6] (.int (x + y) :: r) (σ, sz, k, c)) ∧
  (∀ (n : Nat) (l0 l1 l2 l3 l4 l5 l6 : Option Value) (x y : Int32)  (σ : zk_S) (sz k c : Nat), zk_run E (zk_VT E) M_X11_least (C_X11_least E) P PX K (n + 1) 90 [l0, l1, l2, l3, l4, l5, l6] (.int y :: .int x :: []) (σ, sz, k, c) = (([] : List Value).length ≤ 4 ∧ k ≤ 0 ∧ c ≤ 0 ∧ zk_run E (zk_VT E) M_X11_least (C_X11_least E) P PX K n 93 [l0, l1, l2, l3, l4, l5, l6] (.int (i_min x y) :: []) (σ, sz, k, c))) ∧
  (∀ (n : Nat) (l0 l1 l2 l3 l4 l5 l6 : Option Value) (x : Int32) (r : List Value) (σ : zk_S) (sz k c : Nat), zk_run E (zk_VT E) M_X11_least (C_X11_least E) P PX K (n + 1) 93 [l0, l1, l2, l3, l4, l5, l6] (.int x :: r) (σ, sz, k, c) = zk_run E (zk_VT E) M_X11_least (C_X11_least E) P PX K n 95 [l0, l1, l2, l3, zk_kl l4, some (.int x), l6] r (σ, sz, k, c)) ∧
  (∀ (n : Nat) (l0 l1 l2 l3 l4 l5 : Option Value) (y6 : Int32) (r : List Value) (σ : zk_S) (sz k c : Nat), zk_run E (zk_VT E) M_X11_least (C_X11_least E) P PX K (n + 1) 95 [l0, l1, l2, l3, l4, l5, some (.int y6)] r (σ, sz, k, c) = zk_run E (zk_VT E) M_X11_least (C_X11_least E) P PX K n 98 [l0, l1, l2, l3, l4, zk_kl l5, some (.int (y6 + 1))] r (σ, sz, k, c)) ∧
  (∀ (n : Nat) (l0 l1 l2 l3 l4 l5 l6 : Option Value)  (r : List Value) (σ : zk_S) (sz k c : Nat), zk_run E (zk_VT E) M_X11_least (C_X11_least E) P PX K (n + 1) 98 [l0, l1, l2, l3, l4, l5, l6] r (σ, sz, k, c) = zk_run E (zk_VT E) M_X11_least (C_X11_least E) P PX K n 7 [l0, l1, l2, l3, l4, l5, l6] r (σ, sz, k, c)) ∧
  (∀ (n : Nat) (l0 l1 l2 l3 l4 l6 : Option Value) (y5 : Int32) (r : List Value) (σ : zk_S) (sz k c : Nat), zk_run E (zk_VT E) M_X11_least (C_X11_least E) P PX K (n + 1) 101 [l0, l1, l2, l3, l4, some (.int y5), l6] r (σ, sz, k, c) = zk_run E (zk_VT E) M_X11_least (C_X11_least E) P PX K n 103 [l0, l1, l2, l3, l4, some (.int y5), l6] (.int y5 :: r) (σ, sz, k, c)) ∧
  (∀ (n : Nat) (l0 l1 l2 l3 l4 l5 l6 : Option Value) (x : Int32)  (σ : zk_S) (sz k c : Nat), zk_run E (zk_VT E) M_X11_least (C_X11_least E) P PX K (n + 1) 103 [l0, l1, l2, l3, l4, l5, l6] [.int x] (σ, sz, k, c) = (zk_nok (some (.int)) x ∧ P (some (.int x)) σ sz ∧ k ≤ 0 ∧ c ≤ 0)) ∧
  (∀ (n : Nat) (l0 l1 l2 l3 l4 l5 l6 : Option Value) (r : List Value) (w : zk_W zk_S), zk_go E (zk_VT E) M_X11_least (C_X11_least E) P PX K n 0 [l0, l1, l2, l3, l4, l5, l6] r w = zk_run E (zk_VT E) M_X11_least (C_X11_least E) P PX K (n + 1) 0 [l0, l1, l2, l3, l4, l5, l6] r w) ∧
  (∀ (n : Nat) (l0 l1 l2 l3 l4 l5 : Option Value) (y6 : Int32) (r : List Value) (σ : zk_S) (sz k c : Nat), zk_go E (zk_VT E) M_X11_least (C_X11_least E) P PX K n 7 [l0, l1, l2, l3, l4, l5, some (.int y6)] r (σ, sz, k, c) = zk_run E (zk_VT E) M_X11_least (C_X11_least E) P PX K n 9 [l0, l1, l2, l3, l4, l5, some (.int y6)] (.int y6 :: r) (σ, sz, k, c)) := ⟨by intros; rfl, by intros; rfl, by intros; rfl, by intros; rfl, by intros; rfl, by intros; rfl, by intros; rfl, by intros; rfl, by intros; rfl, by intros; rfl, by intros; rfl, by intros; rfl, by intros; rfl, by intros; rfl, by intros; rfl, by intros; rfl, by intros; rfl, by intros; rfl⟩
theorem vc_X11_least (E : zk_E) : zk_VC E (zk_VT E) M_X11_least (C_X11_least E) 7 (sp_X11_least E) := by
  intro av σ sz P PX h
  obtain ⟨J, N, Q, O, U⟩ := σ
  unfold sp_X11_least at h
  split at h
  case h_2 => exact h.elim
  rename_i a0 r b px py
  obtain ⟨rfl, h⟩ := h
  refine ⟨Nat.le_of_ble_eq_true rfl, fun G hG => ?_⟩
  change G 0 [some (.ref (zk_ad E 22)), some (.int r), some (.int b), some (.int px), some (.int py), none, none] [] ((J, N, Q, O, U), sz, 0, 0)
  try dsimp only at h
  obtain ⟨hms, ⟨hm, hlen, hrow⟩, hvw, ⟨x, y, hx, hy, rfl, rfl⟩, h⟩ := h
  rw [n_cl (n := x) (by omega), n_cl (n := y) (by omega)] at h
  have hA : ∀ k (hk : k < (m_act J N).length), (m_act J N)[k] ∈ m_act J N := fun k hk => List.getElem_mem hk
  have loop : ∀ m k, k + m = (m_act J N).length → G 7 [some (.ref (zk_ad E 22)), some (.int r), some (.int b), some (.int (nI x)), some (.int (nI y)), some (.int (nI (fmin (g_c J N r b (g_v N)) (g_f N (g_v N) x y) ((m_act J N).take k) INF))), some (.int (nI k))] [] ((J, N, Q, O, U), sz, 0, 0) := by
    intro m
    induction m with
    | zero =>
      intro k hk
      have c1 : nI (m_act J N).length ≤ nI k := nI_le (by omega) (by omega)
      (refine hG 900 _ _ _ _ ?_; simp only [r_X11_least, r_X11_least_1, zk_kl_none, zk_kl_int, zk_kl_ref, zk_kl_null, zk_kl_long, zk_kl_rf, zk_isr_ref, zk_isr_null, zk_isr_rf9, zk_c1_int, zk_c1_ref, zk_c1_null, zk_c1_rf, zk_psh_some, zk_psh_none, zk_nok_int, zk_nok_bool0, zk_nok_bool1, zk_nok_b, zk_fok_0, zk_fok_1, zk_fok_2, zk_fok_n, zk_fok_rf, zb_f, zb_p, zb_i, zb_a, zb_s, zk_nth_0, zk_nth_s, zk_fld_o, zk_put_o, zk_rv_eq, zk_ri_eq, zk_is_o, List.mem_cons, List.not_mem_nil, or_false, false_or, or_true, true_or, and_true, true_and, not_false_iff, not_true_eq_false, true_implies, false_implies, imp_self, implies_true, forall_const, zk_lit, zk_uj_ap, zk_un_ap, zk_un_un, zk_uj_uj, Nat.reduceEqDiff, eq_self, zk_bq, Bool.true_or, Bool.false_or, Nat.le_refl, Nat.zero_add, Nat.add_zero, Nat.reduceAdd, Nat.reduceLeDiff, Nat.le_zero_eq, and_self, and_false, false_and, ite_true, ite_false, Nat.zero_le, List.length_cons, List.length_nil, Option.some.injEq, forall_eq', reduceCtorEq, hm, c1])
      rw [List.take_of_length_le (by omega)]
      exact h
    | succ m ih =>
      intro k hk
      have hk2 : k < (m_act J N).length := by omega
      have c1 : ¬ nI (m_act J N).length ≤ nI k := nI_ge (by omega) (by omega)
      have ih2 := ih (k + 1) (by omega)
      have hmem := hA k hk2
      have hr1 := hrow k hk2
      rw [List.take_add_one, List.getElem?_eq_getElem hk2, Option.toList_some, fmin_app] at ih2
      generalize (m_act J N)[k] = e at hmem hr1 ih2
      have he := (m_act_mem.mp hmem).1
      obtain ⟨⟨hv, hvi⟩, hgx⟩ := hvw e hmem
      have hin : vp_in (nI k) 100 := n_in (by omega) (by decide)
      have hcl : (nI k).toNatClampNeg = k := n_cl (by omega)
      have hin2 : vp_in (nI e) 100 := n_in (by omega) (by decide)
      have hcl2 : (nI e).toNatClampNeg = e := n_cl (by omega)
      have h2 : nI e / 2 = nI (e / 2) := n_div2 (by omega)
      have hx1 : ∃ e1, e1 < 100 ∧ nI e = nI e1 := ⟨e, he, rfl⟩
      unfold INF at hvi
      have hb1 := fmin_le_init (g_c J N r b (g_v N)) (g_f N (g_v N) x y) ((m_act J N).take k) INF
      generalize fmin (g_c J N r b (g_v N)) (g_f N (g_v N) x y) ((m_act J N).take k) INF = bst at hb1 ih2 ⊢
      unfold INF at hb1
      by_cases q1 : nI (e / 2) = b
      · rw [if_neg (by simp [g_c, q1])] at ih2
        (refine hG 900 _ _ _ _ ?_; simp only [r_X11_least, r_X11_least_1, zk_kl_none, zk_kl_int, zk_kl_ref, zk_kl_null, zk_kl_long, zk_kl_rf, zk_isr_ref, zk_isr_null, zk_isr_rf9, zk_c1_int, zk_c1_ref, zk_c1_null, zk_c1_rf, zk_psh_some, zk_psh_none, zk_nok_int, zk_nok_bool0, zk_nok_bool1, zk_nok_b, zk_fok_0, zk_fok_1, zk_fok_2, zk_fok_n, zk_fok_rf, zb_f, zb_p, zb_i, zb_a, zb_s, zk_nth_0, zk_nth_s, zk_fld_o, zk_put_o, zk_rv_eq, zk_ri_eq, zk_is_o, List.mem_cons, List.not_mem_nil, or_false, false_or, or_true, true_or, and_true, true_and, not_false_iff, not_true_eq_false, true_implies, false_implies, imp_self, implies_true, forall_const, zk_lit, zk_uj_ap, zk_un_ap, zk_un_un, zk_uj_uj, Nat.reduceEqDiff, eq_self, zk_bq, Bool.true_or, Bool.false_or, Nat.le_refl, Nat.zero_add, Nat.add_zero, Nat.reduceAdd, Nat.reduceLeDiff, Nat.le_zero_eq, and_self, and_false, false_and, ite_true, ite_false, Nat.zero_le, List.length_cons, List.length_nil, Option.some.injEq, forall_eq', reduceCtorEq, hm, c1, hin, hcl, hr1, h2, q1, n_succ])
        exact ih2
      · by_cases q2 : m_from J N e = r
        · by_cases q3 : g_v N e < INF
          · rw [if_pos (by simp [g_c, q1, q2, q3])] at ih2
            have c3 : ¬ (268435456 : Int32) ≤ nI (g_v N e) := (nI_ge (b := 268435456) q3 (by decide) : ¬ nI 268435456 ≤ nI (g_v N e))
            have hd := dN_le hgx.1.2 hgx.2.2 hx hy
            have hmin : i_min (nI bst) (nI (dN (g_x N e) (g_y N e) x y) + nI (g_v N e)) = nI (min bst (g_f N (g_v N) x y e)) := by
              rw [n_add, n_min (by omega) (by omega)]
              rfl
            (refine hG 900 _ _ _ _ ?_; simp only [r_X11_least, r_X11_least_1, zk_kl_none, zk_kl_int, zk_kl_ref, zk_kl_null, zk_kl_long, zk_kl_rf, zk_isr_ref, zk_isr_null, zk_isr_rf9, zk_c1_int, zk_c1_ref, zk_c1_null, zk_c1_rf, zk_psh_some, zk_psh_none, zk_nok_int, zk_nok_bool0, zk_nok_bool1, zk_nok_b, zk_fok_0, zk_fok_1, zk_fok_2, zk_fok_n, zk_fok_rf, zb_f, zb_p, zb_i, zb_a, zb_s, zk_nth_0, zk_nth_s, zk_fld_o, zk_put_o, zk_rv_eq, zk_ri_eq, zk_is_o, List.mem_cons, List.not_mem_nil, or_false, false_or, or_true, true_or, and_true, true_and, not_false_iff, not_true_eq_false, true_implies, false_implies, imp_self, implies_true, forall_const, zk_lit, zk_uj_ap, zk_un_ap, zk_un_un, zk_uj_uj, Nat.reduceEqDiff, eq_self, zk_bq, Bool.true_or, Bool.false_or, Nat.le_refl, Nat.zero_add, Nat.add_zero, Nat.reduceAdd, Nat.reduceLeDiff, Nat.le_zero_eq, and_self, and_false, false_and, ite_true, ite_false, Nat.zero_le, List.length_cons, List.length_nil, Option.some.injEq, forall_eq', reduceCtorEq, hm, c1, hin, hcl, hr1, h2, q1, q2, n_succ, spe_X11_isExit, spe_X11_distance, hms, hx1, hcl2, hin2, hv, c3, zk_b0, decide_true, m_dist_n hgx hx hy, hmin, Bool.true_eq_false])
            exact ih2
          · rw [if_neg (by simp [g_c, q3])] at ih2
            have c3 : (268435456 : Int32) ≤ nI (g_v N e) := (nI_le (a := 268435456) (Nat.not_lt.mp q3) (by omega) : nI 268435456 ≤ nI (g_v N e))
            (refine hG 900 _ _ _ _ ?_; simp only [r_X11_least, r_X11_least_1, zk_kl_none, zk_kl_int, zk_kl_ref, zk_kl_null, zk_kl_long, zk_kl_rf, zk_isr_ref, zk_isr_null, zk_isr_rf9, zk_c1_int, zk_c1_ref, zk_c1_null, zk_c1_rf, zk_psh_some, zk_psh_none, zk_nok_int, zk_nok_bool0, zk_nok_bool1, zk_nok_b, zk_fok_0, zk_fok_1, zk_fok_2, zk_fok_n, zk_fok_rf, zb_f, zb_p, zb_i, zb_a, zb_s, zk_nth_0, zk_nth_s, zk_fld_o, zk_put_o, zk_rv_eq, zk_ri_eq, zk_is_o, List.mem_cons, List.not_mem_nil, or_false, false_or, or_true, true_or, and_true, true_and, not_false_iff, not_true_eq_false, true_implies, false_implies, imp_self, implies_true, forall_const, zk_lit, zk_uj_ap, zk_un_ap, zk_un_un, zk_uj_uj, Nat.reduceEqDiff, eq_self, zk_bq, Bool.true_or, Bool.false_or, Nat.le_refl, Nat.zero_add, Nat.add_zero, Nat.reduceAdd, Nat.reduceLeDiff, Nat.le_zero_eq, and_self, and_false, false_and, ite_true, ite_false, Nat.zero_le, List.length_cons, List.length_nil, Option.some.injEq, forall_eq', reduceCtorEq, hm, c1, hin, hcl, hr1, h2, q1, q2, n_succ, spe_X11_isExit, spe_X11_distance, hms, hx1, hcl2, hin2, hv, c3, zk_b0, decide_true, Bool.true_eq_false])
            exact ih2
        · rw [if_neg (by simp [g_c, q2])] at ih2
          (refine hG 900 _ _ _ _ ?_; simp only [r_X11_least, r_X11_least_1, zk_kl_none, zk_kl_int, zk_kl_ref, zk_kl_null, zk_kl_long, zk_kl_rf, zk_isr_ref, zk_isr_null, zk_isr_rf9, zk_c1_int, zk_c1_ref, zk_c1_null, zk_c1_rf, zk_psh_some, zk_psh_none, zk_nok_int, zk_nok_bool0, zk_nok_bool1, zk_nok_b, zk_fok_0, zk_fok_1, zk_fok_2, zk_fok_n, zk_fok_rf, zb_f, zb_p, zb_i, zb_a, zb_s, zk_nth_0, zk_nth_s, zk_fld_o, zk_put_o, zk_rv_eq, zk_ri_eq, zk_is_o, List.mem_cons, List.not_mem_nil, or_false, false_or, or_true, true_or, and_true, true_and, not_false_iff, not_true_eq_false, true_implies, false_implies, imp_self, implies_true, forall_const, zk_lit, zk_uj_ap, zk_un_ap, zk_un_un, zk_uj_uj, Nat.reduceEqDiff, eq_self, zk_bq, Bool.true_or, Bool.false_or, Nat.le_refl, Nat.zero_add, Nat.add_zero, Nat.reduceAdd, Nat.reduceLeDiff, Nat.le_zero_eq, and_self, and_false, false_and, ite_true, ite_false, Nat.zero_le, List.length_cons, List.length_nil, Option.some.injEq, forall_eq', reduceCtorEq, hm, c1, hin, hcl, hr1, h2, q1, q2, n_succ, spe_X11_isExit, hms, hx1, hcl2, zk_b0, decide_false])
          exact ih2
  have l0 := loop (m_act J N).length 0 (by omega)
  (refine hG 900 _ _ _ _ ?_; simp only [r_X11_least, r_X11_least_1, zk_kl_none, zk_kl_int, zk_kl_ref, zk_kl_null, zk_kl_long, zk_kl_rf, zk_isr_ref, zk_isr_null, zk_isr_rf9, zk_c1_int, zk_c1_ref, zk_c1_null, zk_c1_rf, zk_psh_some, zk_psh_none, zk_nok_int, zk_nok_bool0, zk_nok_bool1, zk_nok_b, zk_fok_0, zk_fok_1, zk_fok_2, zk_fok_n, zk_fok_rf, zb_f, zb_p, zb_i, zb_a, zb_s, zk_nth_0, zk_nth_s, zk_fld_o, zk_put_o, zk_rv_eq, zk_ri_eq, zk_is_o, List.mem_cons, List.not_mem_nil, or_false, false_or, or_true, true_or, and_true, true_and, not_false_iff, not_true_eq_false, true_implies, false_implies, imp_self, implies_true, forall_const, zk_lit, zk_uj_ap, zk_un_ap, zk_un_un, zk_uj_uj, Nat.reduceEqDiff, eq_self, zk_bq, Bool.true_or, Bool.false_or, Nat.le_refl, Nat.zero_add, Nat.add_zero, Nat.reduceAdd, Nat.reduceLeDiff, Nat.le_zero_eq, and_self, and_false, false_and, ite_true, ite_false, Nat.zero_le, List.length_cons, List.length_nil, Option.some.injEq, forall_eq', reduceCtorEq])
  exact l0
theorem ct_X11_least {l : Launch} (hl : l.stackTraces = false) (E : zk_E) : zk_C l E (zk_VT E) yX11_least cX11_least 7 (some (.int)) rm_X11_least (sp_X11_least E) := by
  refine zk_meth (M := M_X11_least) (C := C_X11_least E) hl (by decide +kernel) rfl (fun _ _ => rfl) (zk_VT_ok E) MO_X11_least TO_X11_least THo_X11_least ?_ (vc_X11_least E)
  exact fun p e s m args below meth c X pc n mc ms sp2 h => by
    have h2 := zk_lka_mem h
    simp only [List.mem_cons, List.not_mem_nil, or_false, Prod.mk.injEq] at h2
    rcases h2 with ⟨rfl, rfl, rfl, rfl, rfl⟩ | ⟨rfl, rfl, rfl, rfl, rfl⟩
    · exact zk_coV (idx := 202) X (ct_X11_isExit hl E) (List.forall_mem_cons.mpr ⟨zk_wi 1256 (by decide +kernel) rfl, List.forall_mem_cons.mpr ⟨zk_wi 1258 (by decide +kernel) rfl, List.forall_mem_cons.mpr ⟨zk_wp 31 (by decide +kernel) rfl, List.forall_mem_cons.mpr ⟨zk_wi 6 (by decide +kernel) rfl, List.forall_mem_cons.mpr ⟨zk_wi 1259 (by decide +kernel) rfl, fun _ h => absurd h List.not_mem_nil⟩⟩⟩⟩⟩) (fun ci h => by
      have h := Nat.eq_of_beq_eq_true h
      subst h
      exact ⟨_, _, rfl⟩) (by decide +kernel) ⟨by decide, by decide, by decide +kernel⟩ ⟨by decide, by decide⟩
    · exact zk_coV (idx := 206) X (ct_X11_distance hl E) (List.forall_mem_cons.mpr ⟨zk_wi 1260 (by decide +kernel) rfl, List.forall_mem_cons.mpr ⟨zk_wi 1262 (by decide +kernel) rfl, List.forall_mem_cons.mpr ⟨zk_wp 32 (by decide +kernel) rfl, List.forall_mem_cons.mpr ⟨zk_wi 6 (by decide +kernel) rfl, List.forall_mem_cons.mpr ⟨zk_wi 1263 (by decide +kernel) rfl, fun _ h => absurd h List.not_mem_nil⟩⟩⟩⟩⟩) (fun ci h => by
      have h := Nat.eq_of_beq_eq_true h
      subst h
      exact ⟨_, _, rfl⟩) (by decide +kernel) ⟨by decide, by decide, by decide +kernel⟩ ⟨by decide, by decide⟩

