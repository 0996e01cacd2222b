/-! least over a list; the reference's invariant; its least -/
def INF : Nat := 268435456
def fmin (c : Nat → Bool) (f : Nat → Nat) (L : List Nat) (b : Nat) : Nat := L.foldl (fun b e => if c e then min b (f e) else b) b
theorem fmin_app (c : Nat → Bool) (f : Nat → Nat) (L : List Nat) (e b : Nat) : fmin c f (L ++ [e]) b = if c e then min (fmin c f L b) (f e) else fmin c f L b := by
  unfold fmin
  rw [List.foldl_append]
  rfl
theorem fmin_le (c : Nat → Bool) (f : Nat → Nat) (t : Nat) : ∀ (L : List Nat) (b : Nat), fmin c f L b ≤ t ↔ b ≤ t ∨ ∃ e ∈ L, c e = true ∧ f e ≤ t
  | [], b => by simp [fmin]
  | e :: L, b => by
    have ih := fmin_le c f t L (if c e then min b (f e) else b)
    have : fmin c f (e :: L) b = fmin c f L (if c e then min b (f e) else b) := rfl
    rw [this, ih]
    by_cases h : c e = true
    · rw [if_pos h]
      constructor
      · rintro (h1 | ⟨x, h1, h2⟩)
        · rcases Nat.le_total b (f e) with q | q
          · rw [Nat.min_eq_left q] at h1; exact Or.inl h1
          · rw [Nat.min_eq_right q] at h1; exact Or.inr ⟨e, List.mem_cons_self, h, h1⟩
        · exact Or.inr ⟨x, List.mem_cons_of_mem _ h1, h2⟩
      · rintro (h1 | ⟨x, h1, h2⟩)
        · exact Or.inl (Nat.le_trans (Nat.min_le_left _ _) h1)
        · rcases List.mem_cons.mp h1 with rfl | h1
          · exact Or.inl (Nat.le_trans (Nat.min_le_right _ _) h2.2)
          · exact Or.inr ⟨x, h1, h2⟩
    · rw [if_neg h]
      constructor
      · rintro (h1 | ⟨x, h1, h2⟩)
        · exact Or.inl h1
        · exact Or.inr ⟨x, List.mem_cons_of_mem _ h1, h2⟩
      · rintro (h1 | ⟨x, h1, h2⟩)
        · exact Or.inl h1
        · rcases List.mem_cons.mp h1 with rfl | h1
          · exact absurd h2.1 h
          · exact Or.inr ⟨x, h1, h2⟩
theorem nat_eq_of_le {a b : Nat} (h : ∀ t, a ≤ t ↔ b ≤ t) : a = b := Nat.le_antisymm ((h b).mpr (Nat.le_refl _)) ((h a).mp (Nat.le_refl _))
theorem fmin_le_init (c : Nat → Bool) (f : Nat → Nat) (L : List Nat) (b : Nat) : fmin c f L b ≤ b := (fmin_le c f b L b).mpr (Or.inl (Nat.le_refl _))
/-- how far, both ways together -/
def dN (a b x y : Nat) : Nat := ((a - x) + (x - a)) + ((b - y) + (y - b))
theorem n_absd {a x : Nat} (ha : a < 2 ^ 30) (hx : x < 2 ^ 30) : i_abs (nI a - nI x) = nI ((a - x) + (x - a)) := by
  unfold i_abs
  rcases Nat.le_total x a with h | h
  · rw [pk_sub h, if_pos (nI_pos' (by omega))]
    congr 1
    omega
  · have e1 : nI a - nI x = 0 - nI (x - a) := by
      rw [show nI x = nI (a + (x - a)) by rw [show a + (x - a) = x by omega], ← nI_add]
      apply Int32.toBitVec_inj.mp
      simp [Int32.toBitVec_sub, Int32.toBitVec_add]
      bv_omega
    rcases Nat.eq_or_lt_of_le h with q | q
    · subst q
      rw [show nI a - nI a = nI 0 from pk_sub (Nat.le_refl a) |>.trans (by rw [Nat.sub_self]), if_pos (nI_pos' (by decide))]
      congr 1
      omega
    · have e2 : ¬ (0 : Int32) ≤ nI a - nI x := by
        rw [Int32.le_iff_toInt_le, pk_sub_toInt ha hx]
        show ¬ (0 : Int) ≤ _
        omega
      rw [if_neg e2, e1]
      have e3 : (0 : Int32) - (0 - nI (x - a)) = nI (x - a) := by
        apply Int32.toBitVec_inj.mp
        simp [Int32.toBitVec_sub]
      rw [e3]
      congr 1
      omega
theorem n_min {a b : Nat} (ha : a < 2 ^ 31) (hb : b < 2 ^ 31) : i_min (nI a) (nI b) = nI (min a b) := by
  unfold i_min
  by_cases h : b < a
  · rw [if_pos (nI_lt h (by omega)), Nat.min_eq_right (by omega)]
  · rw [if_neg (nI_nlt (by omega) (by omega)), Nat.min_eq_left (by omega)]
theorem n_max {a b : Nat} (ha : a < 2 ^ 31) (hb : b < 2 ^ 31) : i_max (nI a) (nI b) = nI (max a b) := by
  unfold i_max
  by_cases h : a < b
  · rw [if_pos (nI_lt h (by omega)), Nat.max_eq_right (by omega)]
  · rw [if_neg (nI_nlt (by omega) (by omega)), Nat.max_eq_left (by omega)]
def g_v (N : Nat → Nat → Int32) (e : Nat) : Nat := (N 47 e).toNatClampNeg
def g_x (N : Nat → Nat → Int32) (e : Nat) : Nat := (m_px N e).toNatClampNeg
def g_y (N : Nat → Nat → Int32) (e : Nat) : Nat := (m_py N e).toNatClampNeg
/-- an exit's point is where it can be -/
def GX (N : Nat → Nat → Int32) (e : Nat) : Prop := (m_px N e = nI (g_x N e) ∧ g_x N e ≤ 400) ∧ (m_py N e = nI (g_y N e) ∧ g_y N e ≤ 400)
theorem m_dist_n {N : Nat → Nat → Int32} {e x y : Nat} (h : GX N e) (hx : x ≤ 400) (hy : y ≤ 400) : m_dist N e (nI x) (nI y) = nI (dN (g_x N e) (g_y N e) x y) := by
  obtain ⟨⟨h1, h2⟩, h3, h4⟩ := h
  unfold m_dist dN
  rw [h1, h3, n_absd (by omega) (by omega), n_absd (by omega) (by omega), n_add]
theorem dN_le {a b x y : Nat} (ha : a ≤ 400) (hb : b ≤ 400) (hx : x ≤ 400) (hy : y ≤ 400) : dN a b x y ≤ 800 := by unfold dN; omega
/-- the row is told, the ways are numbers -/
def RW (J N : Nat → Nat → Int32) (L : List Nat) : Prop := J 22 35 = nI L.length ∧ L.length ≤ 100 ∧ ∀ (k : Nat) (h : k < L.length), N 52 k = nI L[k]
def VW (J N : Nat → Nat → Int32) : Prop := ∀ e ∈ m_act J N, (N 47 e = nI (g_v N e) ∧ g_v N e ≤ INF) ∧ GX N e
def g_c (J N : Nat → Nat → Int32) (room but : Int32) (v : Nat → Nat) (e : Nat) : Bool := decide (¬ nI (e / 2) = but) && (decide (m_from J N e = room) && decide (v e < INF))
def g_f (N : Nat → Nat → Int32) (v : Nat → Nat) (x y e : Nat) : Nat := dN (g_x N e) (g_y N e) x y + v e
def g_least (J N : Nat → Nat → Int32) (v : Nat → Nat) (room but : Int32) (x y : Nat) : Nat := fmin (g_c J N room but v) (g_f N v x y) (m_act J N) INF

