/-! the reference: collect, least -/
theorem ES.ms {J J2 N N2 : Nat → Nat → Int32} (h : ES J J2 N N2) (hms : MS J) : MS J2 := by
  obtain ⟨h1, h2, h3, h4, -⟩ := h
  unfold MS m_nr m_nd m_nw m_ns at hms ⊢
  rw [h1, h2, h3, h4]
  exact hms
theorem ES.refl (J N : Nat → Nat → Int32) : ES J J N N := ⟨rfl, rfl, rfl, rfl, fun _ _ _ => rfl⟩
theorem ES.trans {J J2 J3 N N2 N3 : Nat → Nat → Int32} (h : ES J J2 N N2) (h2 : ES J2 J3 N2 N3) : ES J J3 N N3 :=
  ⟨h2.1.trans h.1, h2.2.1.trans h.2.1, h2.2.2.1.trans h.2.2.1, h2.2.2.2.1.trans h.2.2.2.1, fun o a b => (h2.2.2.2.2 o a b).trans (h.2.2.2.2 o a b)⟩
theorem ES.uj {J N : Nat → Nat → Int32} {k : Nat} {x : Int32} (h : k ≠ 1 ∧ k ≠ 9 ∧ k ≠ 17 ∧ k ≠ 23) : ES J (zk_uj J 22 k x) N N := by
  refine ⟨?_, ?_, ?_, ?_, fun _ _ _ => rfl⟩ <;> (unfold zk_uj; rw [if_neg (by omega)])
theorem ES.un {J N : Nat → Nat → Int32} {k : Nat} {g : Nat → Int32} (h : 46 < k ∨ k < 23) : ES J J N (zk_un N k g) :=
  ⟨rfl, rfl, rfl, rfl, fun o a b => by unfold zk_un; rw [if_neg (by omega)]⟩
theorem ES.from {J J2 N N2 : Nat → Nat → Int32} (h : ES J J2 N N2) (e : Nat) : m_from J2 N2 e = m_from J N e := by
  obtain ⟨h1, h2, h3, h4, h5⟩ := h
  unfold m_from m_nd m_ns
  rw [h2, h4, h5 30 (by omega) (by omega), h5 31 (by omega) (by omega), h5 36 (by omega) (by omega), h5 42 (by omega) (by omega), h5 43 (by omega) (by omega)]
theorem ES.into {J J2 N N2 : Nat → Nat → Int32} (h : ES J J2 N N2) (e : Nat) : m_into N2 e = m_into N e := by
  obtain ⟨h1, h2, h3, h4, h5⟩ := h
  unfold m_into
  rw [h5 30 (by omega) (by omega), h5 31 (by omega) (by omega), h5 42 (by omega) (by omega), h5 43 (by omega) (by omega)]
theorem ES.px {J J2 N N2 : Nat → Nat → Int32} (h : ES J J2 N N2) (e : Nat) : m_px N2 e = m_px N e := by
  obtain ⟨h1, h2, h3, h4, h5⟩ := h
  unfold m_px
  rw [h5 32 (by omega) (by omega), h5 34 (by omega) (by omega), h5 35 (by omega) (by omega), h5 44 (by omega) (by omega)]
theorem ES.py {J J2 N N2 : Nat → Nat → Int32} (h : ES J J2 N N2) (e : Nat) : m_py N2 e = m_py N e := by
  obtain ⟨h1, h2, h3, h4, h5⟩ := h
  unfold m_py
  rw [h5 33 (by omega) (by omega), h5 34 (by omega) (by omega), h5 35 (by omega) (by omega), h5 45 (by omega) (by omega)]
/-- the directions that are there, below n -/
def m_actN (J N : Nat → Nat → Int32) (n : Nat) : List Nat := (List.range n).filter (fun e => decide (¬ m_from J N e = -2))
def m_act (J N : Nat → Nat → Int32) : List Nat := m_actN J N 100
theorem m_actN_succ (J N : Nat → Nat → Int32) (n : Nat) : m_actN J N (n + 1) = m_actN J N n ++ (if m_from J N n = -2 then [] else [n]) := by
  unfold m_actN
  rw [List.range_succ, List.filter_append]
  by_cases h : m_from J N n = -2 <;> simp [h]
theorem m_actN_len (J N : Nat → Nat → Int32) (n : Nat) : (m_actN J N n).length ≤ n := by
  unfold m_actN
  exact Nat.le_trans (List.length_filter_le _ _) (by simp)
theorem m_actN_skip (J N : Nat → Nat → Int32) : ∀ (k n : Nat), (∀ e, n ≤ e → e < n + k → m_from J N e = -2) → m_actN J N (n + k) = m_actN J N n
  | 0, n, _ => rfl
  | k + 1, n, h => by
    rw [← Nat.add_assoc, m_actN_succ, if_pos (h (n + k) (by omega) (by omega)), List.append_nil]
    exact m_actN_skip J N k n (fun e a b => h e a (by omega))
theorem m_from_door {J N : Nat → Nat → Int32} {e : Nat} (h : 2 * m_nd J ≤ e) (h2 : e < 80) : m_from J N e = -2 := by
  unfold m_from
  rw [if_pos (by omega), if_pos (Or.inl (by omega))]
theorem m_from_stairs {J N : Nat → Nat → Int32} {e : Nat} (h : 2 * (40 + m_ns J) ≤ e) : m_from J N e = -2 := by
  unfold m_from
  rw [if_neg (by omega), if_pos (Or.inl (by omega))]
theorem m_actN_80 (J N : Nat → Nat → Int32) (h : m_nd J ≤ 40) : m_actN J N 80 = m_actN J N (2 * m_nd J) := by
  have := m_actN_skip J N (80 - 2 * m_nd J) (2 * m_nd J) (fun e a b => m_from_door a (by omega))
  rwa [show 2 * m_nd J + (80 - 2 * m_nd J) = 80 by omega] at this
theorem m_actN_100 (J N : Nat → Nat → Int32) (h : m_ns J ≤ 10) : m_act J N = m_actN J N (2 * (40 + m_ns J)) := by
  have := m_actN_skip J N (100 - 2 * (40 + m_ns J)) (2 * (40 + m_ns J)) (fun e a b => m_from_stairs a)
  rwa [show 2 * (40 + m_ns J) + (100 - 2 * (40 + m_ns J)) = 100 by omega] at this
theorem m_act_mem {J N : Nat → Nat → Int32} {e : Nat} : e ∈ m_act J N ↔ e < 100 ∧ ¬ m_from J N e = -2 := by
  simp [m_act, m_actN]
def m_row (g : Nat → Int32) (L : List Nat) : Nat → Int32 := fun k => match L[k]? with
  | some e => nI e
  | none => g k
theorem m_row_nil (g : Nat → Int32) : m_row g [] = g := by funext k; simp [m_row]
theorem m_row_app (g : Nat → Int32) (L : List Nat) (e : Nat) : upd (m_row g L) L.length (nI e) = m_row g (L ++ [e]) := by
  funext k
  unfold upd m_row
  by_cases h : k = L.length
  · subst h
    simp
  · rw [if_neg h]
    by_cases h2 : k < L.length
    · rw [List.getElem?_append_left h2]
    · rw [List.getElem?_eq_none (by omega), List.getElem?_eq_none (by simp; omega)]
theorem m_row_at {g : Nat → Int32} {L : List Nat} {k : Nat} (h : k < L.length) : m_row g L k = nI (L[k]) := by
  unfold m_row
  rw [List.getElem?_eq_getElem h]
def sp_X11_collect (E : zk_E) : zk_Sp zk_S := fun av σ sz P PX => match av with
  | [.ref a] => a = zk_ad E 22 ∧ MS σ.1 ∧ P none (zk_uj σ.1 22 35 (nI (m_act σ.1 σ.2.1).length), zk_un σ.2.1 52 (m_row (σ.2.1 52) (m_act σ.1 σ.2.1)), σ.2.2) sz
  | _ => False
theorem spe_X11_collect (E : zk_E) (a : Nat) (σ : zk_S) (sz : Nat) (P : zk_P zk_S) (PX : zk_X zk_S) : sp_X11_collect E [.ref a] σ sz P PX = (a = zk_ad E 22 ∧ MS σ.1 ∧ P none (zk_uj σ.1 22 35 (nI (m_act σ.1 σ.2.1).length), zk_un σ.2.1 52 (m_row (σ.2.1 52) (m_act σ.1 σ.2.1)), σ.2.2) sz) := propext Iff.rfl
def C_X11_collect (E : zk_E) : zk_Cl zk_S := zk_lka [(19, 2, 0, 0, zk_rv (zk_VT E) (fun ci => Nat.beq ci 10) (sp_X11_from E)), (68, 2, 0, 0, zk_rv (zk_VT E) (fun ci => Nat.beq ci 10) (sp_X11_from E))]
theorem r_X11_collect (E : zk_E) (P : zk_P zk_S) (PX : zk_X zk_S) (K : Nat → zk_L → List Value → zk_W zk_S → Prop) : (∀ (n : Nat) (l1 : Option Value) (y0 : Value) (r : List Value) (σ : zk_S) (sz k c : Nat), zk_run E (zk_VT E) M_X11_collect (C_X11_collect E) P PX K (n + 1) 0 [some y0, l1] r (σ, sz, k, c) = (zk_isr y0 ∧ zk_run E (zk_VT E) M_X11_collect (C_X11_collect E) P PX K n 1 [some y0, l1] (y0 :: r) (σ, sz, k, c))) ∧
  (∀ (n : Nat) (l0 l1 : Option Value)  (r : List Value) (σ : zk_S) (sz k c : Nat), zk_run E (zk_VT E) M_X11_collect (C_X11_collect E) P PX K (n + 1) 1 [l0, l1] r (σ, sz, k, c) = zk_run E (zk_VT E) M_X11_collect (C_X11_collect E) P PX K n 2 [l0, l1] (.int (0) :: r) (σ, sz, k, c)) ∧
  (∀ (n : Nat) (l0 l1 : Option Value) (a : Nat) (v : Value) (r : List Value) (σ : zk_S) (sz k c : Nat), zk_run E (zk_VT E) M_X11_collect (C_X11_collect E) P PX K (n + 1) 2 [l0, l1] (v :: .ref a :: r) (σ, sz, k, c) = zk_put (zk_view E σ a) [10] 35 0 v (zk_pfok E σ a 35 v ∧ zk_run E (zk_VT E) M_X11_collect (C_X11_collect E) P PX K n 5 [l0, l1] r (zk_pf E σ a 35 v, sz, k, c))) ∧
  (∀ (n : Nat) (l0 l1 : Option Value)  (r : List Value) (σ : zk_S) (sz k c : Nat), zk_run E (zk_VT E) M_X11_collect (C_X11_collect E) P PX K (n + 1) 5 [l0, l1] r (σ, sz, k, c) = zk_run E (zk_VT E) M_X11_collect (C_X11_collect E) P PX K n 6 [l0, l1] (.int (0) :: r) (σ, sz, k, c)) ∧
  (∀ (n : Nat) (l0 l1 : Option Value) (x : Int32) (r : List Value) (σ : zk_S) (sz k c : Nat), zk_run E (zk_VT E) M_X11_collect (C_X11_collect E) P PX K (n + 1) 6 [l0, l1] (.int x :: r) (σ, sz, k, c) = zk_run E (zk_VT E) M_X11_collect (C_X11_collect E) P PX K n 7 [zk_kl l0, some (.int x)] r (σ, sz, k, c)) ∧
  (∀ (n : Nat) (l0 l1 : Option Value)  (r : List Value) (σ : zk_S) (sz k c : Nat), zk_run E (zk_VT E) M_X11_collect (C_X11_collect E) P PX K (n + 1) 7 [l0, l1] r (σ, sz, k, c) = K 7 [l0, l1] r (σ, sz, k, c)) ∧
  (∀ (n : Nat) (l0 l1 : Option Value)  (r : List Value) (σ : zk_S) (sz k c : Nat), zk_run E (zk_VT E) M_X11_collect (C_X11_collect E) P PX K (n + 1) 8 [l0, l1] r (σ, sz, k, c) = zk_run E (zk_VT E) M_X11_collect (C_X11_collect E) P PX K n 9 [l0, l1] (.int (2) :: r) (σ, sz, k, c)) ∧
  (∀ (n : Nat) (l1 : Option Value) (y0 : Value) (r : List Value) (σ : zk_S) (sz k c : Nat), zk_run E (zk_VT E) M_X11_collect (C_X11_collect E) P PX K (n + 1) 9 [some y0, l1] r (σ, sz, k, c) = (zk_isr y0 ∧ zk_run E (zk_VT E) M_X11_collect (C_X11_collect E) P PX K n 10 [some y0, l1] (y0 :: r) (σ, sz, k, c))) ∧
  (∀ (n : Nat) (l0 l1 : Option Value) (a : Nat) (r : List Value) (σ : zk_S) (sz k c : Nat), zk_run E (zk_VT E) M_X11_collect (C_X11_collect E) P PX K (n + 1) 10 [l0, l1] (.ref a :: r) (σ, sz, k, c) = zk_fld (zk_view E σ a) [10] 9 (fun v => zk_run E (zk_VT E) M_X11_collect (C_X11_collect E) P PX K n 13 [l0, l1] (v :: r) (σ, sz, k, c))) ∧
  (∀ (n : Nat) (l0 l1 : Option Value) (x y : Int32) (r : List Value) (σ : zk_S) (sz k c : Nat), zk_run E (zk_VT E) M_X11_collect (C_X11_collect E) P PX K (n + 1) 13 [l0, l1] (.int y :: .int x :: r) (σ, sz, k, c) = zk_run E (zk_VT E) M_X11_collect (C_X11_collect E) P PX K n 14 [l0, l1] (.int (x * y) :: r) (σ, sz, k, c)) ∧
  (∀ (n : Nat) (l0 l1 : Option Value) (x y : Int32) (r : List Value) (σ : zk_S) (sz k c : Nat), zk_run E (zk_VT E) M_X11_collect (C_X11_collect E) P PX K (n + 1) 14 [l0, l1] (.int y :: .int x :: r) (σ, sz, k, c) = ((y ≤ x → zk_run E (zk_VT E) M_X11_collect (C_X11_collect E) P PX K n 50 [l0, l1] r (σ, sz, k, c)) ∧ (¬ (y ≤ x) → zk_run E (zk_VT E) M_X11_collect (C_X11_collect E) P PX K n 17 [l0, l1] r (σ, sz, k, c)))) ∧
  (∀ (n : Nat) (l1 : Option Value) (y0 : Value) (r : List Value) (σ : zk_S) (sz k c : Nat), zk_run E (zk_VT E) M_X11_collect (C_X11_collect E) P PX K (n + 1) 17 [some y0, l1] r (σ, sz, k, c) = (zk_isr y0 ∧ zk_run E (zk_VT E) M_X11_collect (C_X11_collect E) P PX K n 18 [some y0, l1] (y0 :: r) (σ, sz, k, c))) ∧
  (∀ (n : Nat) (l0 : Option Value) (y1 : Int32) (r : List Value) (σ : zk_S) (sz k c : Nat), zk_run E (zk_VT E) M_X11_collect (C_X11_collect E) P PX K (n + 1) 18 [l0, some (.int y1)] r (σ, sz, k, c) = zk_run E (zk_VT E) M_X11_collect (C_X11_collect E) P PX K n 19 [l0, some (.int y1)] (.int y1 :: r) (σ, sz, k, c)) ∧
  (∀ (n : Nat) (l0 l1 : Option Value) (v0 : Value) (v1 : Value)  (σ : zk_S) (sz k c : Nat), zk_run E (zk_VT E) M_X11_collect (C_X11_collect E) P PX K (n + 1) 19 [l0, l1] [v0, v1] (σ, sz, k, c) = (k + 0 ≤ 0 ∧ c + 0 ≤ 0 ∧ (zk_rv (zk_VT E) (fun ci => Nat.beq ci 10) (sp_X11_from E)) [v1, v0] σ sz (fun v s2 z2 => zk_run E (zk_VT E) M_X11_collect (C_X11_collect E) P PX K n 22 [l0, l1] (zk_psh v []) (s2, z2, k + 0, c + 0)) (fun X s2 z2 => PX X s2 z2))) ∧
  (∀ (n : Nat) (l0 l1 : Option Value)  (r : List Value) (σ : zk_S) (sz k c : Nat), zk_run E (zk_VT E) M_X11_collect (C_X11_collect E) P PX K (n + 1) 22 [l0, l1] r (σ, sz, k, c) = zk_run E (zk_VT E) M_X11_collect (C_X11_collect E) P PX K n 24 [l0, l1] (.int ((-2)) :: r) (σ, sz, k, c)) ∧
  (∀ (n : Nat) (l0 l1 : Option Value) (x y : Int32) (r : List Value) (σ : zk_S) (sz k c : Nat), zk_run E (zk_VT E) M_X11_collect (C_X11_collect E) P PX K (n + 1) 24 [l0, l1] (.int y :: .int x :: r) (σ, sz, k, c) = ((x = y → zk_run E (zk_VT E) M_X11_collect (C_X11_collect E) P PX K n 44 [l0, l1] r (σ, sz, k, c)) ∧ (¬ (x = y) → zk_run E (zk_VT E) M_X11_collect (C_X11_collect E) P PX K n 27 [l0, l1] r (σ, sz, k, c)))) ∧
  (∀ (n : Nat) (l1 : Option Value) (y0 : Value) (r : List Value) (σ : zk_S) (sz k c : Nat), zk_run E (zk_VT E) M_X11_collect (C_X11_collect E) P PX K (n + 1) 27 [some y0, l1] r (σ, sz, k, c) = (zk_isr y0 ∧ zk_run E (zk_VT E) M_X11_collect (C_X11_collect E) P PX K n 28 [some y0, l1] (y0 :: r) (σ, sz, k, c))) ∧
  (∀ (n : Nat) (l0 l1 : Option Value) (a : Nat) (r : List Value) (σ : zk_S) (sz k c : Nat), zk_run E (zk_VT E) M_X11_collect (C_X11_collect E) P PX K (n + 1) 28 [l0, l1] (.ref a :: r) (σ, sz, k, c) = zk_fld (zk_view E σ a) [10] 36 (fun v => zk_run E (zk_VT E) M_X11_collect (C_X11_collect E) P PX K n 31 [l0, l1] (v :: r) (σ, sz, k, c))) ∧
  (∀ (n : Nat) (l1 : Option Value) (y0 : Value) (r : List Value) (σ : zk_S) (sz k c : Nat), zk_run E (zk_VT E) M_X11_collect (C_X11_collect E) P PX K (n + 1) 31 [some y0, l1] r (σ, sz, k, c) = (zk_isr y0 ∧ zk_run E (zk_VT E) M_X11_collect (C_X11_collect E) P PX K n 32 [some y0, l1] (y0 :: r) (σ, sz, k, c))) ∧
  (∀ (n : Nat) (l0 l1 : Option Value) (v : Value) (r : List Value) (σ : zk_S) (sz k c : Nat), zk_run E (zk_VT E) M_X11_collect (C_X11_collect E) P PX K (n + 1) 32 [l0, l1] (v :: r) (σ, sz, k, c) = (zk_c1 v ∧ zk_run E (zk_VT E) M_X11_collect (C_X11_collect E) P PX K n 33 [l0, l1] (v :: v :: r) (σ, sz, k, c))) ∧
  (∀ (n : Nat) (l0 l1 : Option Value) (a : Nat) (r : List Value) (σ : zk_S) (sz k c : Nat), zk_run E (zk_VT E) M_X11_collect (C_X11_collect E) P PX K (n + 1) 33 [l0, l1] (.ref a :: r) (σ, sz, k, c) = zk_fld (zk_view E σ a) [10] 35 (fun v => zk_run E (zk_VT E) M_X11_collect (C_X11_collect E) P PX K n 36 [l0, l1] (v :: r) (σ, sz, k, c))) ∧
  (∀ (n : Nat) (l0 l1 : Option Value) (v u : Value) (r : List Value) (σ : zk_S) (sz k c : Nat), zk_run E (zk_VT E) M_X11_collect (C_X11_collect E) P PX K (n + 1) 36 [l0, l1] (v :: u :: r) (σ, sz, k, c) = (zk_c1 v ∧ zk_c1 u ∧ zk_run E (zk_VT E) M_X11_collect (C_X11_collect E) P PX K n 37 [l0, l1] (v :: u :: v :: r) (σ, sz, k, c))) ∧
  (∀ (n : Nat) (l0 l1 : Option Value)  (r : List Value) (σ : zk_S) (sz k c : Nat), zk_run E (zk_VT E) M_X11_collect (C_X11_collect E) P PX K (n + 1) 37 [l0, l1] r (σ, sz, k, c) = zk_run E (zk_VT E) M_X11_collect (C_X11_collect E) P PX K n 38 [l0, l1] (.int (1) :: r) (σ, sz, k, c)) ∧
  (∀ (n : Nat) (l0 l1 : Option Value) (x y : Int32) (r : List Value) (σ : zk_S) (sz k c : Nat), zk_run E (zk_VT E) M_X11_collect (C_X11_collect E) P PX K (n + 1) 38 [l0, l1] (.int y :: .int x :: r) (σ, sz, k, c) = zk_run E (zk_VT E) M_X11_collect (C_X11_collect E) P PX K n 39 [l0, l1] (.int (x + y) :: r) (σ, sz, k, c)) ∧
  (∀ (n : Nat) (l0 l1 : Option Value) (a : Nat) (v : Value) (r : List Value) (σ : zk_S) (sz k c : Nat), zk_run E (zk_VT E) M_X11_collect (C_X11_collect E) P PX K (n + 1) 39 [l0, l1] (v :: .ref a :: r) (σ, sz, k, c) = zk_put (zk_view E σ a) [10] 35 0 v (zk_pfok E σ a 35 v ∧ zk_run E (zk_VT E) M_X11_collect (C_X11_collect E) P PX K n 42 [l0, l1] r (zk_pf E σ a 35 v, sz, k, c))) ∧
  (∀ (n : Nat) (l0 : Option Value) (y1 : Int32) (r : List Value) (σ : zk_S) (sz k c : Nat), zk_run E (zk_VT E) M_X11_collect (C_X11_collect E) P PX K (n + 1) 42 [l0, some (.int y1)] r (σ, sz, k, c) = zk_run E (zk_VT E) M_X11_collect (C_X11_collect E) P PX K n 43 [l0, some (.int y1)] (.int y1 :: r) (σ, sz, k, c)) ∧
  (∀ (n : Nat) (l0 l1 : Option Value) (a : Nat) (i x : Int32) (r : List Value) (σ : zk_S) (sz k c : Nat), zk_run E (zk_VT E) M_X11_collect (C_X11_collect E) P PX K (n + 1) 43 [l0, l1] (.int x :: .int i :: .ref a :: r) (σ, sz, k, c) = zk_ist (zk_view E σ a) (zk_ar E 0) i x (fun e => zk_wrok E σ a e ∧ zk_run E (zk_VT E) M_X11_collect (C_X11_collect E) P PX K n 44 [l0, l1] r (zk_wr E σ a e, sz, k, c))) ∧
  (∀ (n : Nat) (l0 : Option Value) (y1 : Int32) (r : List Value) (σ : zk_S) (sz k c : Nat), zk_run E (zk_VT E) M_X11_collect (C_X11_collect E) P PX K (n + 1) 44 [l0, some (.int y1)] r (σ, sz, k, c) = zk_run E (zk_VT E) M_X11_collect (C_X11_collect E) P PX K n 47 [zk_kl l0, some (.int (y1 + 1))] r (σ, sz, k, c)) ∧
  (∀ (n : Nat) (l0 l1 : Option Value)  (r : List Value) (σ : zk_S) (sz k c : Nat), zk_run E (zk_VT E) M_X11_collect (C_X11_collect E) P PX K (n + 1) 47 [l0, l1] r (σ, sz, k, c) = zk_run E (zk_VT E) M_X11_collect (C_X11_collect E) P PX K n 7 [l0, l1] r (σ, sz, k, c)) ∧
  (∀ (n : Nat) (l0 l1 : Option Value)  (r : List Value) (σ : zk_S) (sz k c : Nat), zk_run E (zk_VT E) M_X11_collect (C_X11_collect E) P PX K (n + 1) 50 [l0, l1] r (σ, sz, k, c) = zk_run E (zk_VT E) M_X11_collect (C_X11_collect E) P PX K n 52 [l0, l1] (.int (80) :: r) (σ, sz, k, c)) ∧
  (∀ (n : Nat) (l0 l1 : Option Value) (x : Int32) (r : List Value) (σ : zk_S) (sz k c : Nat), zk_run E (zk_VT E) M_X11_collect (C_X11_collect E) P PX K (n + 1) 52 [l0, l1] (.int x :: r) (σ, sz, k, c) = zk_run E (zk_VT E) M_X11_collect (C_X11_collect E) P PX K n 53 [zk_kl l0, some (.int x)] r (σ, sz, k, c)) ∧
  (∀ (n : Nat) (l0 l1 : Option Value)  (r : List Value) (σ : zk_S) (sz k c : Nat), zk_run E (zk_VT E) M_X11_collect (C_X11_collect E) P PX K (n + 1) 53 [l0, l1] r (σ, sz, k, c) = K 53 [l0, l1] r (σ, sz, k, c)) ∧
  (∀ (n : Nat) (l0 l1 : Option Value)  (r : List Value) (σ : zk_S) (sz k c : Nat), zk_run E (zk_VT E) M_X11_collect (C_X11_collect E) P PX K (n + 1) 54 [l0, l1] r (σ, sz, k, c) = zk_run E (zk_VT E) M_X11_collect (C_X11_collect E) P PX K n 55 [l0, l1] (.int (2) :: r) (σ, sz, k, c)) ∧
  (∀ (n : Nat) (l0 l1 : Option Value)  (r : List Value) (σ : zk_S) (sz k c : Nat), zk_run E (zk_VT E) M_X11_collect (C_X11_collect E) P PX K (n + 1) 55 [l0, l1] r (σ, sz, k, c) = zk_run E (zk_VT E) M_X11_collect (C_X11_collect E) P PX K n 57 [l0, l1] (.int (40) :: r) (σ, sz, k, c)) ∧
  (∀ (n : Nat) (l1 : Option Value) (y0 : Value) (r : List Value) (σ : zk_S) (sz k c : Nat), zk_run E (zk_VT E) M_X11_collect (C_X11_collect E) P PX K (n + 1) 57 [some y0, l1] r (σ, sz, k, c) = (zk_isr y0 ∧ zk_run E (zk_VT E) M_X11_collect (C_X11_collect E) P PX K n 58 [some y0, l1] (y0 :: r) (σ, sz, k, c))) ∧
  (∀ (n : Nat) (l0 l1 : Option Value) (a : Nat) (r : List Value) (σ : zk_S) (sz k c : Nat), zk_run E (zk_VT E) M_X11_collect (C_X11_collect E) P PX K (n + 1) 58 [l0, l1] (.ref a :: r) (σ, sz, k, c) = zk_fld (zk_view E σ a) [10] 23 (fun v => zk_run E (zk_VT E) M_X11_collect (C_X11_collect E) P PX K n 61 [l0, l1] (v :: r) (σ, sz, k, c))) ∧
  (∀ (n : Nat) (l0 l1 : Option Value) (x y : Int32) (r : List Value) (σ : zk_S) (sz k c : Nat), zk_run E (zk_VT E) M_X11_collect (C_X11_collect E) P PX K (n + 1) 61 [l0, l1] (.int y :: .int x :: r) (σ, sz, k, c) = zk_run E (zk_VT E) M_X11_collect (C_X11_collect E) P PX K n 62 [l0, l1] (.int (x + y) :: r) (σ, sz, k, c)) ∧
  (∀ (n : Nat) (l0 l1 : Option Value) (x y : Int32) (r : List Value) (σ : zk_S) (sz k c : Nat), zk_run E (zk_VT E) M_X11_collect (C_X11_collect E) P PX K (n + 1) 62 [l0, l1] (.int y :: .int x :: r) (σ, sz, k, c) = zk_run E (zk_VT E) M_X11_collect (C_X11_collect E) P PX K n 63 [l0, l1] (.int (x * y) :: r) (σ, sz, k, c)) ∧
  (∀ (n : Nat) (l0 l1 : Option Value) (x y : Int32) (r : List Value) (σ : zk_S) (sz k c : Nat), zk_run E (zk_VT E) M_X11_collect (C_X11_collect E) P PX K (n + 1) 63 [l0, l1] (.int y :: .int x :: r) (σ, sz, k, c) = ((y ≤ x → zk_run E (zk_VT E) M_X11_collect (C_X11_collect E) P PX K n 99 [l0, l1] r (σ, sz, k, c)) ∧ (¬ (y ≤ x) → zk_run E (zk_VT E) M_X11_collect (C_X11_collect E) P PX K n 66 [l0, l1] r (σ, sz, k, c)))) ∧
  (∀ (n : Nat) (l1 : Option Value) (y0 : Value) (r : List Value) (σ : zk_S) (sz k c : Nat), zk_run E (zk_VT E) M_X11_collect (C_X11_collect E) P PX K (n + 1) 66 [some y0, l1] r (σ, sz, k, c) = (zk_isr y0 ∧ zk_run E (zk_VT E) M_X11_collect (C_X11_collect E) P PX K n 67 [some y0, l1] (y0 :: r) (σ, sz, k, c))) := ⟨by intros; rfl, by intros; rfl, by intros; rfl, by intros; rfl, by intros; rfl, by intros; rfl, by intros; rfl, by intros; rfl, by intros; rfl, by intros; rfl, by intros; rfl, by intros; rfl, by intros; rfl, by intros; rfl, by intros; rfl, by intros; rfl, by intros; rfl, by intros; rfl, by intros; rfl, by intros; rfl, by intros; rfl, by intros; rfl, by intros; rfl, by intros; rfl, by intros; rfl, by intros; rfl, by intros; rfl, by intros; rfl, by intros; rfl, by intros; rfl, by intros; rfl, by intros; rfl, by intros; rfl, by intros; rfl, by intros; rfl, by intros; rfl, by intros; rfl, by intros; rfl, by intros; rfl, by intros; rfl⟩
theorem r_X11_collect_1 (E : zk_E) (P : zk_P zk_S) (PX : zk_X zk_S) (K : Nat → zk_L → List Value → zk_W zk_S → Prop) : (∀ (n : Nat) (l0 : Option Value) (y1 : Int32) (r : List Value) (σ : zk_S) (sz k c : Nat), zk_run E (zk_VT E) M_X11_collect (C_X11_collect E) P PX K (n + 1) 67 [l0, some (.int y1)] r (σ, sz, k, c) = zk_run E (zk_VT E) M_X11_collect (C_X11_collect E) P PX K n 68 [l0, some (.int y1)] (.int y1 :: r) (σ, sz, k, c)) ∧
  (∀ (n : Nat) (l0 l1 : Option Value) (v0 : Value) (v1 : Value)  (σ : zk_S) (sz k c : Nat), zk_run E (zk_VT E) M_X11_collect (C_X11_collect E) P PX K (n + 1) 68 [l0, l1] [v0, v1] (σ, sz, k, c) = (k + 0 ≤ 0 ∧ c + 0 ≤ 0 ∧ (zk_rv (zk_VT E) (fun ci => Nat.beq ci 10) (sp_X11_from E)) [v1, v0] σ sz (fun v s2 z2 => zk_run E (zk_VT E) M_X11_collect (C_X11_collect E) P PX K n 71 [l0, l1] (zk_psh v []) (s2, z2, k + 0, c + 0)) (fun X s2 z2 => PX X s2 z2))) ∧
  (∀ (n : Nat) (l0 l1 : Option Value)  (r : List Value) (σ : zk_S) (sz k c : Nat), zk_run E (zk_VT E) M_X11_collect (C_X11_collect E) P PX K (n + 1) 71 [l0, l1] r (σ, sz, k, c) = zk_run E (zk_VT E) M_X11_collect (C_X11_collect E) P PX K n 73 [l0, l1] (.int ((-2)) :: r) (σ, sz, k, c)) ∧
  (∀ (n : Nat) (l0 l1 : Option Value) (x y : Int32) (r : List Value) (σ : zk_S) (sz k c : Nat), zk_run E (zk_VT E) M_X11_collect (C_X11_collect E) P PX K (n + 1) 73 [l0, l1] (.int y :: .int x :: r) (σ, sz, k, c) = ((x = y → zk_run E (zk_VT E) M_X11_collect (C_X11_collect E) P PX K n 93 [l0, l1] r (σ, sz, k, c)) ∧ (¬ (x = y) → zk_run E (zk_VT E) M_X11_collect (C_X11_collect E) P PX K n 76 [l0, l1] r (σ, sz, k, c)))) ∧
  (∀ (n : Nat) (l1 : Option Value) (y0 : Value) (r : List Value) (σ : zk_S) (sz k c : Nat), zk_run E (zk_VT E) M_X11_collect (C_X11_collect E) P PX K (n + 1) 76 [some y0, l1] r (σ, sz, k, c) = (zk_isr y0 ∧ zk_run E (zk_VT E) M_X11_collect (C_X11_collect E) P PX K n 77 [some y0, l1] (y0 :: r) (σ, sz, k, c))) ∧
  (∀ (n : Nat) (l0 l1 : Option Value) (a : Nat) (r : List Value) (σ : zk_S) (sz k c : Nat), zk_run E (zk_VT E) M_X11_collect (C_X11_collect E) P PX K (n + 1) 77 [l0, l1] (.ref a :: r) (σ, sz, k, c) = zk_fld (zk_view E σ a) [10] 36 (fun v => zk_run E (zk_VT E) M_X11_collect (C_X11_collect E) P PX K n 80 [l0, l1] (v :: r) (σ, sz, k, c))) ∧
  (∀ (n : Nat) (l1 : Option Value) (y0 : Value) (r : List Value) (σ : zk_S) (sz k c : Nat), zk_run E (zk_VT E) M_X11_collect (C_X11_collect E) P PX K (n + 1) 80 [some y0, l1] r (σ, sz, k, c) = (zk_isr y0 ∧ zk_run E (zk_VT E) M_X11_collect (C_X11_collect E) P PX K n 81 [some y0, l1] (y0 :: r) (σ, sz, k, c))) ∧
  (∀ (n : Nat) (l0 l1 : Option Value) (v : Value) (r : List Value) (σ : zk_S) (sz k c : Nat), zk_run E (zk_VT E) M_X11_collect (C_X11_collect E) P PX K (n + 1) 81 [l0, l1] (v :: r) (σ, sz, k, c) = (zk_c1 v ∧ zk_run E (zk_VT E) M_X11_collect (C_X11_collect E) P PX K n 82 [l0, l1] (v :: v :: r) (σ, sz, k, c))) ∧
  (∀ (n : Nat) (l0 l1 : Option Value) (a : Nat) (r : List Value) (σ : zk_S) (sz k c : Nat), zk_run E (zk_VT E) M_X11_collect (C_X11_collect E) P PX K (n + 1) 82 [l0, l1] (.ref a :: r) (σ, sz, k, c) = zk_fld (zk_view E σ a) [10] 35 (fun v => zk_run E (zk_VT E) M_X11_collect (C_X11_collect E) P PX K n 85 [l0, l1] (v :: r) (σ, sz, k, c))) ∧
  (∀ (n : Nat) (l0 l1 : Option Value) (v u : Value) (r : List Value) (σ : zk_S) (sz k c : Nat), zk_run E (zk_VT E) M_X11_collect (C_X11_collect E) P PX K (n + 1) 85 [l0, l1] (v :: u :: r) (σ, sz, k, c) = (zk_c1 v ∧ zk_c1 u ∧ zk_run E (zk_VT E) M_X11_collect (C_X11_collect E) P PX K n 86 [l0, l1] (v :: u :: v :: r) (σ, sz, k, c))) ∧
  (∀ (n : Nat) (l0 l1 : Option Value)  (r : List Value) (σ : zk_S) (sz k c : Nat), zk_run E (zk_VT E) M_X11_collect (C_X11_collect E) P PX K (n + 1) 86 [l0, l1] r (σ, sz, k, c) = zk_run E (zk_VT E) M_X11_collect (C_X11_collect E) P PX K n 87 [l0, l1] (.int (1) :: r) (σ, sz, k, c)) ∧
  (∀ (n : Nat) (l0 l1 : Option Value) (x y : Int32) (r : List Value) (σ : zk_S) (sz k c : Nat), zk_run E (zk_VT E) M_X11_collect (C_X11_collect E) P PX K (n + 1) 87 [l0, l1] (.int y :: .int x :: r) (σ, sz, k, c) = zk_run E (zk_VT E) M_X11_collect (C_X11_collect E) P PX K n 88 [l0, l1] (.int (x + y) :: r) (σ, sz, k, c)) ∧
  (∀ (n : Nat) (l0 l1 : Option Value) (a : Nat) (v : Value) (r : List Value) (σ : zk_S) (sz k c : Nat), zk_run E (zk_VT E) M_X11_collect (C_X11_collect E) P PX K (n + 1) 88 [l0, l1] (v :: .ref a :: r) (σ, sz, k, c) = zk_put (zk_view E σ a) [10] 35 0 v (zk_pfok E σ a 35 v ∧ zk_run E (zk_VT E) M_X11_collect (C_X11_collect E) P PX K n 91 [l0, l1] r (zk_pf E σ a 35 v, sz, k, c))) ∧
  (∀ (n : Nat) (l0 : Option Value) (y1 : Int32) (r : List Value) (σ : zk_S) (sz k c : Nat), zk_run E (zk_VT E) M_X11_collect (C_X11_collect E) P PX K (n + 1) 91 [l0, some (.int y1)] r (σ, sz, k, c) = zk_run E (zk_VT E) M_X11_collect (C_X11_collect E) P PX K n 92 [l0, some (.int y1)] (.int y1 :: r) (σ, sz, k, c)) ∧
  (∀ (n : Nat) (l0 l1 : Option Value) (a : Nat) (i x : Int32) (r : List Value) (σ : zk_S) (sz k c : Nat), zk_run E (zk_VT E) M_X11_collect (C_X11_collect E) P PX K (n + 1) 92 [l0, l1] (.int x :: .int i :: .ref a :: r) (σ, sz, k, c) = zk_ist (zk_view E σ a) (zk_ar E 0) i x (fun e => zk_wrok E σ a e ∧ zk_run E (zk_VT E) M_X11_collect (C_X11_collect E) P PX K n 93 [l0, l1] r (zk_wr E σ a e, sz, k, c))) ∧
  (∀ (n : Nat) (l0 : Option Value) (y1 : Int32) (r : List Value) (σ : zk_S) (sz k c : Nat), zk_run E (zk_VT E) M_X11_collect (C_X11_collect E) P PX K (n + 1) 93 [l0, some (.int y1)] r (σ, sz, k, c) = zk_run E (zk_VT E) M_X11_collect (C_X11_collect E) P PX K n 96 [zk_kl l0, some (.int (y1 + 1))] r (σ, sz, k, c)) ∧
  (∀ (n : Nat) (l0 l1 : Option Value)  (r : List Value) (σ : zk_S) (sz k c : Nat), zk_run E (zk_VT E) M_X11_collect (C_X11_collect E) P PX K (n + 1) 96 [l0, l1] r (σ, sz, k, c) = zk_run E (zk_VT E) M_X11_collect (C_X11_collect E) P PX K n 53 [l0, l1] r (σ, sz, k, c)) ∧
  (∀ (n : Nat) (l0 l1 : Option Value)   (σ : zk_S) (sz k c : Nat), zk_run E (zk_VT E) M_X11_collect (C_X11_collect E) P PX K (n + 1) 99 [l0, l1] [] (σ, sz, k, c) = (P none σ sz ∧ k ≤ 0 ∧ c ≤ 0)) ∧
  (∀ (n : Nat) (l0 l1 : Option Value) (r : List Value) (w : zk_W zk_S), zk_go E (zk_VT E) M_X11_collect (C_X11_collect E) P PX K n 0 [l0, l1] r w = zk_run E (zk_VT E) M_X11_collect (C_X11_collect E) P PX K (n + 1) 0 [l0, l1] r w) ∧
  (∀ (n : Nat) (l0 : Option Value) (y1 : Int32) (r : List Value) (σ : zk_S) (sz k c : Nat), zk_go E (zk_VT E) M_X11_collect (C_X11_collect E) P PX K n 7 [l0, some (.int y1)] r (σ, sz, k, c) = zk_run E (zk_VT E) M_X11_collect (C_X11_collect E) P PX K n 8 [l0, some (.int y1)] (.int y1 :: r) (σ, sz, k, c)) ∧
  (∀ (n : Nat) (l0 : Option Value) (y1 : Int32) (r : List Value) (σ : zk_S) (sz k c : Nat), zk_go E (zk_VT E) M_X11_collect (C_X11_collect E) P PX K n 53 [l0, some (.int y1)] r (σ, sz, k, c) = zk_run E (zk_VT E) M_X11_collect (C_X11_collect E) P PX K n 54 [l0, some (.int y1)] (.int y1 :: r) (σ, sz, k, c)) := ⟨by intros; rfl, by intros; rfl, by intros; rfl, by intros; rfl, by intros; rfl, by intros; rfl, by intros; rfl, by intros; rfl, by intros; rfl, by intros; rfl, by intros; rfl, by intros; rfl, by intros; rfl, by intros; rfl, by intros; rfl, by intros; rfl, by intros; rfl, by intros; rfl, by intros; rfl, by intros; rfl, by intros; rfl⟩
theorem vc_X11_collect (E : zk_E) : zk_VC E (zk_VT E) M_X11_collect (C_X11_collect E) 2 (sp_X11_collect E) := by
  intro av σ sz P PX h
  obtain ⟨J, N, Q, O, U⟩ := σ
  unfold sp_X11_collect at h
  split at h
  case h_2 => exact h.elim
  rename_i a0
  obtain ⟨rfl, h⟩ := h
  refine ⟨Nat.le_of_ble_eq_true rfl, fun G hG => ?_⟩
  change G 0 [some (.ref (zk_ad E 22)), none] [] ((J, N, Q, O, U), sz, 0, 0)
  try dsimp only at h
  obtain ⟨hms, h⟩ := h
  have hJ := hms.2.1.1
  have hn := hms.2.1.2
  have hJ2 := hms.2.2.2.1
  have hn2 := hms.2.2.2.2
  have es : ∀ e, ES J (zk_uj J 22 35 (nI (m_actN J N e).length)) N (zk_un N 52 (m_row (N 52) (m_actN J N e))) := fun e => (ES.uj (by decide)).trans (ES.un (by decide))
  have step : ∀ e, m_from J N e = -2 ∨ ¬ m_from J N e = -2 := fun e => Decidable.em _
  have loop2 : ∀ m e, e + m = 2 * (40 + m_ns J) → G 53 [some (.ref (zk_ad E 22)), some (.int (nI e))] [] ((zk_uj J 22 35 (nI (m_actN J N e).length), zk_un N 52 (m_row (N 52) (m_actN J N e)), Q, O, U), sz, 0, 0) := by
    intro m
    have e2 : (2 : Int32) * (40 + nI (m_ns J)) = nI (2 * (40 + m_ns J)) := by rw [show (40 : Int32) + nI (m_ns J) = nI (40 + m_ns J) from n_add 40 _]; exact n_mul 2 _
    induction m with
    | zero =>
      intro e he
      have c1 : nI (2 * (40 + m_ns J)) ≤ nI e := nI_le (by omega) (by omega)
      (refine hG 900 _ _ _ _ ?_; simp only [r_X11_collect, r_X11_collect_1, zk_kl_none, zk_kl_int, zk_kl_ref, zk_kl_null, zk_kl_long, zk_kl_rf, zk_isr_ref, zk_isr_null, zk_isr_rf9, zk_c1_int, zk_c1_ref, zk_c1_null, zk_c1_rf, zk_psh_some, zk_psh_none, zk_nok_int, zk_nok_bool0, zk_nok_bool1, zk_nok_b, zk_fok_0, zk_fok_1, zk_fok_2, zk_fok_n, zk_fok_rf, zb_f, zb_p, zb_i, zb_a, zb_s, zk_nth_0, zk_nth_s, zk_fld_o, zk_put_o, zk_rv_eq, zk_ri_eq, zk_is_o, List.mem_cons, List.not_mem_nil, or_false, false_or, or_true, true_or, and_true, true_and, not_false_iff, not_true_eq_false, true_implies, false_implies, imp_self, implies_true, forall_const, zk_lit, zk_uj_ap, zk_un_ap, zk_un_un, zk_uj_uj, Nat.reduceEqDiff, eq_self, zk_bq, Bool.true_or, Bool.false_or, Nat.le_refl, Nat.zero_add, Nat.add_zero, Nat.reduceAdd, Nat.reduceLeDiff, Nat.le_zero_eq, and_self, and_false, false_and, ite_true, ite_false, Nat.zero_le, List.length_cons, List.length_nil, Option.some.injEq, forall_eq', reduceCtorEq, hJ2, e2, c1])
      rw [show e = 2 * (40 + m_ns J) by omega, ← m_actN_100 J N hn2]
      exact h
    | succ m ih =>
      intro e he
      have c1 : ¬ nI (2 * (40 + m_ns J)) ≤ nI e := nI_ge (by omega) (by omega)
      have ih2 := ih (e + 1) (by omega)
      rw [m_actN_succ] at ih2
      have hx : ∃ e1, e1 < 100 ∧ nI e = nI e1 := ⟨e, by omega, rfl⟩
      have hcl : (nI e).toNatClampNeg = e := n_cl (by omega)
      have hlen := m_actN_len J N e
      have hin : vp_in (nI (m_actN J N e).length) 100 := n_in (by omega) (by decide)
      have hcl2 : (nI (m_actN J N e).length).toNatClampNeg = (m_actN J N e).length := n_cl (by omega)
      rcases step e with q | q
      · rw [if_pos q, List.append_nil] at ih2
        (refine hG 900 _ _ _ _ ?_; simp only [r_X11_collect, r_X11_collect_1, zk_kl_none, zk_kl_int, zk_kl_ref, zk_kl_null, zk_kl_long, zk_kl_rf, zk_isr_ref, zk_isr_null, zk_isr_rf9, zk_c1_int, zk_c1_ref, zk_c1_null, zk_c1_rf, zk_psh_some, zk_psh_none, zk_nok_int, zk_nok_bool0, zk_nok_bool1, zk_nok_b, zk_fok_0, zk_fok_1, zk_fok_2, zk_fok_n, zk_fok_rf, zb_f, zb_p, zb_i, zb_a, zb_s, zk_nth_0, zk_nth_s, zk_fld_o, zk_put_o, zk_rv_eq, zk_ri_eq, zk_is_o, List.mem_cons, List.not_mem_nil, or_false, false_or, or_true, true_or, and_true, true_and, not_false_iff, not_true_eq_false, true_implies, false_implies, imp_self, implies_true, forall_const, zk_lit, zk_uj_ap, zk_un_ap, zk_un_un, zk_uj_uj, Nat.reduceEqDiff, eq_self, zk_bq, Bool.true_or, Bool.false_or, Nat.le_refl, Nat.zero_add, Nat.add_zero, Nat.reduceAdd, Nat.reduceLeDiff, Nat.le_zero_eq, and_self, and_false, false_and, ite_true, ite_false, Nat.zero_le, List.length_cons, List.length_nil, Option.some.injEq, forall_eq', reduceCtorEq, hJ2, e2, c1, spe_X11_from, (es e).ms hms, (es e).from, hx, hcl, q, n_succ])
        exact ih2
      · rw [if_neg q, List.length_append, ← m_row_app] at ih2
        (refine hG 900 _ _ _ _ ?_; simp only [r_X11_collect, r_X11_collect_1, zk_kl_none, zk_kl_int, zk_kl_ref, zk_kl_null, zk_kl_long, zk_kl_rf, zk_isr_ref, zk_isr_null, zk_isr_rf9, zk_c1_int, zk_c1_ref, zk_c1_null, zk_c1_rf, zk_psh_some, zk_psh_none, zk_nok_int, zk_nok_bool0, zk_nok_bool1, zk_nok_b, zk_fok_0, zk_fok_1, zk_fok_2, zk_fok_n, zk_fok_rf, zb_f, zb_p, zb_i, zb_a, zb_s, zk_nth_0, zk_nth_s, zk_fld_o, zk_put_o, zk_rv_eq, zk_ri_eq, zk_is_o, List.mem_cons, List.not_mem_nil, or_false, false_or, or_true, true_or, and_true, true_and, not_false_iff, not_true_eq_false, true_implies, false_implies, imp_self, implies_true, forall_const, zk_lit, zk_uj_ap, zk_un_ap, zk_un_un, zk_uj_uj, Nat.reduceEqDiff, eq_self, zk_bq, Bool.true_or, Bool.false_or, Nat.le_refl, Nat.zero_add, Nat.add_zero, Nat.reduceAdd, Nat.reduceLeDiff, Nat.le_zero_eq, and_self, and_false, false_and, ite_true, ite_false, Nat.zero_le, List.length_cons, List.length_nil, Option.some.injEq, forall_eq', reduceCtorEq, hJ2, e2, c1, spe_X11_from, (es e).ms hms, (es e).from, hx, hcl, q, n_succ, hin, hcl2])
        exact ih2
  have loop1 : ∀ m e, e + m = 2 * m_nd J → G 7 [some (.ref (zk_ad E 22)), some (.int (nI e))] [] ((zk_uj J 22 35 (nI (m_actN J N e).length), zk_un N 52 (m_row (N 52) (m_actN J N e)), Q, O, U), sz, 0, 0) := by
    intro m
    have e2 : (2 : Int32) * nI (m_nd J) = nI (2 * m_nd J) := n_mul 2 _
    induction m with
    | zero =>
      intro e he
      have c1 : nI (2 * m_nd J) ≤ nI e := nI_le (by omega) (by omega)
      (refine hG 900 _ _ _ _ ?_; simp only [r_X11_collect, r_X11_collect_1, zk_kl_none, zk_kl_int, zk_kl_ref, zk_kl_null, zk_kl_long, zk_kl_rf, zk_isr_ref, zk_isr_null, zk_isr_rf9, zk_c1_int, zk_c1_ref, zk_c1_null, zk_c1_rf, zk_psh_some, zk_psh_none, zk_nok_int, zk_nok_bool0, zk_nok_bool1, zk_nok_b, zk_fok_0, zk_fok_1, zk_fok_2, zk_fok_n, zk_fok_rf, zb_f, zb_p, zb_i, zb_a, zb_s, zk_nth_0, zk_nth_s, zk_fld_o, zk_put_o, zk_rv_eq, zk_ri_eq, zk_is_o, List.mem_cons, List.not_mem_nil, or_false, false_or, or_true, true_or, and_true, true_and, not_false_iff, not_true_eq_false, true_implies, false_implies, imp_self, implies_true, forall_const, zk_lit, zk_uj_ap, zk_un_ap, zk_un_un, zk_uj_uj, Nat.reduceEqDiff, eq_self, zk_bq, Bool.true_or, Bool.false_or, Nat.le_refl, Nat.zero_add, Nat.add_zero, Nat.reduceAdd, Nat.reduceLeDiff, Nat.le_zero_eq, and_self, and_false, false_and, ite_true, ite_false, Nat.zero_le, List.length_cons, List.length_nil, Option.some.injEq, forall_eq', reduceCtorEq, hJ, e2, c1])
      rw [show e = 2 * m_nd J by omega, ← m_actN_80 J N hn]
      exact loop2 (2 * m_ns J) 80 (by omega)
    | succ m ih =>
      intro e he
      have c1 : ¬ nI (2 * m_nd J) ≤ nI e := nI_ge (by omega) (by omega)
      have ih2 := ih (e + 1) (by omega)
      rw [m_actN_succ] at ih2
      have hx : ∃ e1, e1 < 100 ∧ nI e = nI e1 := ⟨e, by omega, rfl⟩
      have hcl : (nI e).toNatClampNeg = e := n_cl (by omega)
      have hlen := m_actN_len J N e
      have hin : vp_in (nI (m_actN J N e).length) 100 := n_in (by omega) (by decide)
      have hcl2 : (nI (m_actN J N e).length).toNatClampNeg = (m_actN J N e).length := n_cl (by omega)
      rcases step e with q | q
      · rw [if_pos q, List.append_nil] at ih2
        (refine hG 900 _ _ _ _ ?_; simp only [r_X11_collect, r_X11_collect_1, zk_kl_none, zk_kl_int, zk_kl_ref, zk_kl_null, zk_kl_long, zk_kl_rf, zk_isr_ref, zk_isr_null, zk_isr_rf9, zk_c1_int, zk_c1_ref, zk_c1_null, zk_c1_rf, zk_psh_some, zk_psh_none, zk_nok_int, zk_nok_bool0, zk_nok_bool1, zk_nok_b, zk_fok_0, zk_fok_1, zk_fok_2, zk_fok_n, zk_fok_rf, zb_f, zb_p, zb_i, zb_a, zb_s, zk_nth_0, zk_nth_s, zk_fld_o, zk_put_o, zk_rv_eq, zk_ri_eq, zk_is_o, List.mem_cons, List.not_mem_nil, or_false, false_or, or_true, true_or, and_true, true_and, not_false_iff, not_true_eq_false, true_implies, false_implies, imp_self, implies_true, forall_const, zk_lit, zk_uj_ap, zk_un_ap, zk_un_un, zk_uj_uj, Nat.reduceEqDiff, eq_self, zk_bq, Bool.true_or, Bool.false_or, Nat.le_refl, Nat.zero_add, Nat.add_zero, Nat.reduceAdd, Nat.reduceLeDiff, Nat.le_zero_eq, and_self, and_false, false_and, ite_true, ite_false, Nat.zero_le, List.length_cons, List.length_nil, Option.some.injEq, forall_eq', reduceCtorEq, hJ, e2, c1, spe_X11_from, (es e).ms hms, (es e).from, hx, hcl, q, n_succ])
        exact ih2
      · rw [if_neg q, List.length_append, ← m_row_app] at ih2
        (refine hG 900 _ _ _ _ ?_; simp only [r_X11_collect, r_X11_collect_1, zk_kl_none, zk_kl_int, zk_kl_ref, zk_kl_null, zk_kl_long, zk_kl_rf, zk_isr_ref, zk_isr_null, zk_isr_rf9, zk_c1_int, zk_c1_ref, zk_c1_null, zk_c1_rf, zk_psh_some, zk_psh_none, zk_nok_int, zk_nok_bool0, zk_nok_bool1, zk_nok_b, zk_fok_0, zk_fok_1, zk_fok_2, zk_fok_n, zk_fok_rf, zb_f, zb_p, zb_i, zb_a, zb_s, zk_nth_0, zk_nth_s, zk_fld_o, zk_put_o, zk_rv_eq, zk_ri_eq, zk_is_o, List.mem_cons, List.not_mem_nil, or_false, false_or, or_true, true_or, and_true, true_and, not_false_iff, not_true_eq_false, true_implies, false_implies, imp_self, implies_true, forall_const, zk_lit, zk_uj_ap, zk_un_ap, zk_un_un, zk_uj_uj, Nat.reduceEqDiff, eq_self, zk_bq, Bool.true_or, Bool.false_or, Nat.le_refl, Nat.zero_add, Nat.add_zero, Nat.reduceAdd, Nat.reduceLeDiff, Nat.le_zero_eq, and_self, and_false, false_and, ite_true, ite_false, Nat.zero_le, List.length_cons, List.length_nil, Option.some.injEq, forall_eq', reduceCtorEq, hJ, e2, c1, spe_X11_from, (es e).ms hms, (es e).from, hx, hcl, q, n_succ, hin, hcl2])
        exact ih2
  have l0 := loop1 (2 * m_nd J) 0 (by omega)
  rw [show m_actN J N 0 = [] from rfl, m_row_nil, zk_un_self] at l0
  (refine hG 900 _ _ _ _ ?_; simp only [r_X11_collect, r_X11_collect_1, zk_kl_none, zk_kl_int, zk_kl_ref, zk_kl_null, zk_kl_long, zk_kl_rf, zk_isr_ref, zk_isr_null, zk_isr_rf9, zk_c1_int, zk_c1_ref, zk_c1_null, zk_c1_rf, zk_psh_some, zk_psh_none, zk_nok_int, zk_nok_bool0, zk_nok_bool1, zk_nok_b, zk_fok_0, zk_fok_1, zk_fok_2, zk_fok_n, zk_fok_rf, zb_f, zb_p, zb_i, zb_a, zb_s, zk_nth_0, zk_nth_s, zk_fld_o, zk_put_o, zk_rv_eq, zk_ri_eq, zk_is_o, List.mem_cons, List.not_mem_nil, or_false, false_or, or_true, true_or, and_true, true_and, not_false_iff, not_true_eq_false, true_implies, false_implies, imp_self, implies_true, forall_const, zk_lit, zk_uj_ap, zk_un_ap, zk_un_un, zk_uj_uj, Nat.reduceEqDiff, eq_self, zk_bq, Bool.true_or, Bool.false_or, Nat.le_refl, Nat.zero_add, Nat.add_zero, Nat.reduceAdd, Nat.reduceLeDiff, Nat.le_zero_eq, and_self, and_false, false_and, ite_true, ite_false, Nat.zero_le, List.length_cons, List.length_nil, Option.some.injEq, forall_eq', reduceCtorEq])
  exact l0
theorem ct_X11_collect {l : Launch} (hl : l.stackTraces = false) (E : zk_E) : zk_C l E (zk_VT E) yX11_collect cX11_collect 2 (none) rm_X11_collect (sp_X11_collect E) := by
  refine zk_meth (M := M_X11_collect) (C := C_X11_collect E) hl (by decide +kernel) rfl (fun _ _ => rfl) (zk_VT_ok E) MO_X11_collect TO_X11_collect THo_X11_collect ?_ (vc_X11_collect E)
  exact fun p e s m args below meth c X pc n mc ms sp2 h => by
    have h2 := zk_lka_mem h
    simp only [List.mem_cons, List.not_mem_nil, or_false, Prod.mk.injEq] at h2
    rcases h2 with ⟨rfl, rfl, rfl, rfl, rfl⟩ | ⟨rfl, rfl, rfl, rfl, rfl⟩
    · exact zk_coV (idx := 189) X (ct_X11_from hl E) (List.forall_mem_cons.mpr ⟨zk_wi 1235 (by decide +kernel) rfl, List.forall_mem_cons.mpr ⟨zk_wi 1237 (by decide +kernel) rfl, List.forall_mem_cons.mpr ⟨zk_wp 26 (by decide +kernel) rfl, List.forall_mem_cons.mpr ⟨zk_wi 6 (by decide +kernel) rfl, List.forall_mem_cons.mpr ⟨zk_wi 1238 (by decide +kernel) rfl, fun _ h => absurd h List.not_mem_nil⟩⟩⟩⟩⟩) (fun ci h => by
      have h := Nat.eq_of_beq_eq_true h
      subst h
      exact ⟨_, _, rfl⟩) (by decide +kernel) ⟨by decide, by decide, by decide +kernel⟩ ⟨by decide, by decide⟩
    · exact zk_coV (idx := 189) X (ct_X11_from hl E) (List.forall_mem_cons.mpr ⟨zk_wi 1235 (by decide +kernel) rfl, List.forall_mem_cons.mpr ⟨zk_wi 1237 (by decide +kernel) rfl, List.forall_mem_cons.mpr ⟨zk_wp 26 (by decide +kernel) rfl, List.forall_mem_cons.mpr ⟨zk_wi 6 (by decide +kernel) rfl, List.forall_mem_cons.mpr ⟨zk_wi 1238 (by decide +kernel) rfl, fun _ h => absurd h List.not_mem_nil⟩⟩⟩⟩⟩) (fun ci h => by
      have h := Nat.eq_of_beq_eq_true h
      subst h
      exact ⟨_, _, rfl⟩) (by decide +kernel) ⟨by decide, by decide, by decide +kernel⟩ ⟨by decide, by decide⟩

