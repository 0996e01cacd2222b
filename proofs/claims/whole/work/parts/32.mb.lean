/-! the reference: loads -/
theorem g_dep_cases (J N : Nat → Nat → Int32) : ∀ f r m, g_dep J N f r m = -1 ∨ ∃ t, m ≤ t ∧ t < m + f ∧ g_dep J N f r m = nI t
  | 0, _, _ => Or.inl rfl
  | f + 1, r, m => by
    unfold g_dep
    split
    · exact Or.inr ⟨m, Nat.le_refl _, by omega, rfl⟩
    · split
      · exact Or.inl rfl
      · rcases g_dep_cases J N f (m_into N (lea J N r.toNatClampNeg)) (m + 1) with h | ⟨t, h1, h2, h3⟩
        · exact Or.inl h
        · exact Or.inr ⟨t, by omega, by omega, h3⟩
def g_ldp (J N : Nat → Nat → Int32) (k : Nat) (p : Int32) : Nat → Int32 → Int32 → Int32
  | 0, _, s => s
  | f + 1, r, s => if r = -1 then s else g_ldp J N k p f (m_into N (lea J N r.toNatClampNeg)) (s + if lea J N r.toNatClampNeg / 2 = k then p else 0)
def g_ld (J N : Nat → Nat → Int32) (k : Nat) : Nat → Int32
  | 0 => 0
  | r + 1 => if N 23 r = -2 ∨ g_deep J N r = -1 then g_ld J N k r else g_ldp J N k (N 29 r) 21 (nI r) (g_ld J N k r)
def a_load (J N : Nat → Nat → Int32) (k : Nat) : Int32 := g_ld J N k (m_nr J)
theorem ES.ldp {J J2 N N2 : Nat → Nat → Int32} (h : ES J J2 N N2) (k : Nat) (p : Int32) : ∀ f r s, g_ldp J2 N2 k p f r s = g_ldp J N k p f r s
  | 0, _, _ => rfl
  | f + 1, r, s => by rw [g_ldp, g_ldp, h.lea, h.intof, h.ldp k p f]
theorem ES.ld {J J2 N N2 : Nat → Nat → Int32} (h : ES J J2 N N2) (k : Nat) : ∀ r, g_ld J2 N2 k r = g_ld J N k r
  | 0 => rfl
  | r + 1 => by rw [g_ld, g_ld, h.ld k r, h.deep, h.ldp, h.n (o := 23) (by decide), h.n (o := 29) (by decide)]
theorem ES.a6 {J J2 N N2 : Nat → Nat → Int32} (h : ES J J2 N N2) : a_load J2 N2 = a_load J N := by funext k; unfold a_load; rw [h.ld, h.nr]
theorem nI_neg1 : (0 : Int32) ≤ -1 ↔ False := by decide
theorem nI_nn {t : Nat} (h : t < 2 ^ 31) : (0 : Int32) ≤ nI t := (nI_le (a := 0) (Nat.zero_le _) h : nI 0 ≤ nI t)
def sp_X11_loadNow (E : zk_E) : zk_Sp zk_S := fun av σ sz P PX => match av with
  | [.ref a, .int k] => a = zk_ad E 22 ∧ MI σ.1 σ.2.1 ∧ SV σ.1 σ.2.1 ∧ (∃ n, n < 50 ∧ k = nI n) ∧ P (some (.int (a_load σ.1 σ.2.1 k.toNatClampNeg))) σ sz
  | _ => False
theorem spe_X11_loadNow (E : zk_E) (a : Nat) (k : Int32) (σ : zk_S) (sz : Nat) (P : zk_P zk_S) (PX : zk_X zk_S) : sp_X11_loadNow E [.ref a, .int k] σ sz P PX = (a = zk_ad E 22 ∧ MI σ.1 σ.2.1 ∧ SV σ.1 σ.2.1 ∧ (∃ n, n < 50 ∧ k = nI n) ∧ P (some (.int (a_load σ.1 σ.2.1 k.toNatClampNeg))) σ sz) := propext Iff.rfl
def C_X11_loadNow (E : zk_E) : zk_Cl zk_S := zk_lka [(78, 2, 0, 0, zk_rv (zk_VT E) (fun ci => Nat.beq ci 10) (sp_X11_into E))]
theorem r_X11_loadNow (E : zk_E) (P : zk_P zk_S) (PX : zk_X zk_S) (K : Nat → zk_L → List Value → zk_W zk_S → Prop) : (∀ (n : Nat) (l0 l1 l2 l3 l4 : Option Value)  (r : List Value) (σ : zk_S) (sz k c : Nat), zk_run E (zk_VT E) M_X11_loadNow (C_X11_loadNow E) P PX K (n + 1) 0 [l0, l1, l2, l3, l4] r (σ, sz, k, c) = zk_run E (zk_VT E) M_X11_loadNow (C_X11_loadNow E) P PX K n 1 [l0, l1, l2, l3, l4] (.int (0) :: r) (σ, sz, k, c)) ∧
  (∀ (n : Nat) (l0 l1 l2 l3 l4 : Option Value) (x : Int32) (r : List Value) (σ : zk_S) (sz k c : Nat), zk_run E (zk_VT E) M_X11_loadNow (C_X11_loadNow E) P PX K (n + 1) 1 [l0, l1, l2, l3, l4] (.int x :: r) (σ, sz, k, c) = zk_run E (zk_VT E) M_X11_loadNow (C_X11_loadNow E) P PX K n 2 [l0, zk_kl l1, some (.int x), l3, l4] r (σ, sz, k, c)) ∧
  (∀ (n : Nat) (l0 l1 l2 l3 l4 : Option Value)  (r : List Value) (σ : zk_S) (sz k c : Nat), zk_run E (zk_VT E) M_X11_loadNow (C_X11_loadNow E) P PX K (n + 1) 2 [l0, l1, l2, l3, l4] r (σ, sz, k, c) = zk_run E (zk_VT E) M_X11_loadNow (C_X11_loadNow E) P PX K n 3 [l0, l1, l2, l3, l4] (.int (0) :: r) (σ, sz, k, c)) ∧
  (∀ (n : Nat) (l0 l1 l2 l3 l4 : Option Value) (x : Int32) (r : List Value) (σ : zk_S) (sz k c : Nat), zk_run E (zk_VT E) M_X11_loadNow (C_X11_loadNow E) P PX K (n + 1) 3 [l0, l1, l2, l3, l4] (.int x :: r) (σ, sz, k, c) = zk_run E (zk_VT E) M_X11_loadNow (C_X11_loadNow E) P PX K n 4 [l0, l1, zk_kl l2, some (.int x), l4] r (σ, sz, k, c)) ∧
  (∀ (n : Nat) (l0 l1 l2 l3 l4 : Option Value)  (r : List Value) (σ : zk_S) (sz k c : Nat), zk_run E (zk_VT E) M_X11_loadNow (C_X11_loadNow E) P PX K (n + 1) 4 [l0, l1, l2, l3, l4] r (σ, sz, k, c) = K 4 [l0, l1, l2, l3, l4] r (σ, sz, k, c)) ∧
  (∀ (n : Nat) (l1 l2 l3 l4 : Option Value) (y0 : Value) (r : List Value) (σ : zk_S) (sz k c : Nat), zk_run E (zk_VT E) M_X11_loadNow (C_X11_loadNow E) P PX K (n + 1) 5 [some y0, l1, l2, l3, l4] r (σ, sz, k, c) = (zk_isr y0 ∧ zk_run E (zk_VT E) M_X11_loadNow (C_X11_loadNow E) P PX K n 6 [some y0, l1, l2, l3, l4] (y0 :: r) (σ, sz, k, c))) ∧
  (∀ (n : Nat) (l0 l1 l2 l3 l4 : Option Value) (a : Nat) (r : List Value) (σ : zk_S) (sz k c : Nat), zk_run E (zk_VT E) M_X11_loadNow (C_X11_loadNow E) P PX K (n + 1) 6 [l0, l1, l2, l3, l4] (.ref a :: r) (σ, sz, k, c) = zk_fld (zk_view E σ a) [10] 1 (fun v => zk_run E (zk_VT E) M_X11_loadNow (C_X11_loadNow E) P PX K n 9 [l0, l1, l2, l3, l4] (v :: r) (σ, sz, k, c))) ∧
  (∀ (n : Nat) (l0 l1 l2 l3 l4 : Option Value) (x y : Int32) (r : List Value) (σ : zk_S) (sz k c : Nat), zk_run E (zk_VT E) M_X11_loadNow (C_X11_loadNow E) P PX K (n + 1) 9 [l0, l1, l2, l3, l4] (.int y :: .int x :: r) (σ, sz, k, c) = ((y ≤ x → zk_run E (zk_VT E) M_X11_loadNow (C_X11_loadNow E) P PX K n 92 [l0, l1, l2, l3, l4] r (σ, sz, k, c)) ∧ (¬ (y ≤ x) → zk_run E (zk_VT E) M_X11_loadNow (C_X11_loadNow E) P PX K n 12 [l0, l1, l2, l3, l4] r (σ, sz, k, c)))) ∧
  (∀ (n : Nat) (l1 l2 l3 l4 : Option Value) (y0 : Value) (r : List Value) (σ : zk_S) (sz k c : Nat), zk_run E (zk_VT E) M_X11_loadNow (C_X11_loadNow E) P PX K (n + 1) 12 [some y0, l1, l2, l3, l4] r (σ, sz, k, c) = (zk_isr y0 ∧ zk_run E (zk_VT E) M_X11_loadNow (C_X11_loadNow E) P PX K n 13 [some y0, l1, l2, l3, l4] (y0 :: r) (σ, sz, k, c))) ∧
  (∀ (n : Nat) (l0 l1 l2 l3 l4 : Option Value) (a : Nat) (r : List Value) (σ : zk_S) (sz k c : Nat), zk_run E (zk_VT E) M_X11_loadNow (C_X11_loadNow E) P PX K (n + 1) 13 [l0, l1, l2, l3, l4] (.ref a :: r) (σ, sz, k, c) = zk_fld (zk_view E σ a) [10] 2 (fun v => zk_run E (zk_VT E) M_X11_loadNow (C_X11_loadNow E) P PX K n 16 [l0, l1, l2, l3, l4] (v :: r) (σ, sz, k, c))) ∧
  (∀ (n : Nat) (l0 l1 l2 l4 : Option Value) (y3 : Int32) (r : List Value) (σ : zk_S) (sz k c : Nat), zk_run E (zk_VT E) M_X11_loadNow (C_X11_loadNow E) P PX K (n + 1) 16 [l0, l1, l2, some (.int y3), l4] r (σ, sz, k, c) = zk_run E (zk_VT E) M_X11_loadNow (C_X11_loadNow E) P PX K n 17 [l0, l1, l2, some (.int y3), l4] (.int y3 :: r) (σ, sz, k, c)) ∧
  (∀ (n : Nat) (l0 l1 l2 l3 l4 : Option Value) (a : Nat) (i : Int32) (r : List Value) (σ : zk_S) (sz k c : Nat), zk_run E (zk_VT E) M_X11_loadNow (C_X11_loadNow E) P PX K (n + 1) 17 [l0, l1, l2, l3, l4] (.int i :: .ref a :: r) (σ, sz, k, c) = zk_ild (zk_view E σ a) (zk_ar E 0) i (fun x => zk_run E (zk_VT E) M_X11_loadNow (C_X11_loadNow E) P PX K n 18 [l0, l1, l2, l3, l4] (.int x :: r) (σ, sz, k, c))) ∧
  (∀ (n : Nat) (l0 l1 l2 l3 l4 : Option Value)  (r : List Value) (σ : zk_S) (sz k c : Nat), zk_run E (zk_VT E) M_X11_loadNow (C_X11_loadNow E) P PX K (n + 1) 18 [l0, l1, l2, l3, l4] r (σ, sz, k, c) = zk_run E (zk_VT E) M_X11_loadNow (C_X11_loadNow E) P PX K n 20 [l0, l1, l2, l3, l4] (.int ((-2)) :: r) (σ, sz, k, c)) ∧
  (∀ (n : Nat) (l0 l1 l2 l3 l4 : Option Value) (x y : Int32) (r : List Value) (σ : zk_S) (sz k c : Nat), zk_run E (zk_VT E) M_X11_loadNow (C_X11_loadNow E) P PX K (n + 1) 20 [l0, l1, l2, l3, l4] (.int y :: .int x :: r) (σ, sz, k, c) = ((x = y → zk_run E (zk_VT E) M_X11_loadNow (C_X11_loadNow E) P PX K n 86 [l0, l1, l2, l3, l4] r (σ, sz, k, c)) ∧ (¬ (x = y) → zk_run E (zk_VT E) M_X11_loadNow (C_X11_loadNow E) P PX K n 23 [l0, l1, l2, l3, l4] r (σ, sz, k, c)))) ∧
  (∀ (n : Nat) (l1 l2 l3 l4 : Option Value) (y0 : Value) (r : List Value) (σ : zk_S) (sz k c : Nat), zk_run E (zk_VT E) M_X11_loadNow (C_X11_loadNow E) P PX K (n + 1) 23 [some y0, l1, l2, l3, l4] r (σ, sz, k, c) = (zk_isr y0 ∧ zk_run E (zk_VT E) M_X11_loadNow (C_X11_loadNow E) P PX K n 24 [some y0, l1, l2, l3, l4] (y0 :: r) (σ, sz, k, c))) ∧
  (∀ (n : Nat) (l0 l1 l2 l3 l4 : Option Value) (a : Nat) (r : List Value) (σ : zk_S) (sz k c : Nat), zk_run E (zk_VT E) M_X11_loadNow (C_X11_loadNow E) P PX K (n + 1) 24 [l0, l1, l2, l3, l4] (.ref a :: r) (σ, sz, k, c) = zk_fld (zk_view E σ a) [10] 32 (fun v => zk_run E (zk_VT E) M_X11_loadNow (C_X11_loadNow E) P PX K n 27 [l0, l1, l2, l3, l4] (v :: r) (σ, sz, k, c))) ∧
  (∀ (n : Nat) (l0 l1 l2 l4 : Option Value) (y3 : Int32) (r : List Value) (σ : zk_S) (sz k c : Nat), zk_run E (zk_VT E) M_X11_loadNow (C_X11_loadNow E) P PX K (n + 1) 27 [l0, l1, l2, some (.int y3), l4] r (σ, sz, k, c) = zk_run E (zk_VT E) M_X11_loadNow (C_X11_loadNow E) P PX K n 28 [l0, l1, l2, some (.int y3), l4] (.int y3 :: r) (σ, sz, k, c)) ∧
  (∀ (n : Nat) (l0 l1 l2 l3 l4 : Option Value) (a : Nat) (i : Int32) (r : List Value) (σ : zk_S) (sz k c : Nat), zk_run E (zk_VT E) M_X11_loadNow (C_X11_loadNow E) P PX K (n + 1) 28 [l0, l1, l2, l3, l4] (.int i :: .ref a :: r) (σ, sz, k, c) = zk_ild (zk_view E σ a) (zk_ar E 0) i (fun x => zk_run E (zk_VT E) M_X11_loadNow (C_X11_loadNow E) P PX K n 29 [l0, l1, l2, l3, l4] (.int x :: r) (σ, sz, k, c))) ∧
  (∀ (n : Nat) (l0 l1 l2 l3 l4 : Option Value) (x : Int32) (r : List Value) (σ : zk_S) (sz k c : Nat), zk_run E (zk_VT E) M_X11_loadNow (C_X11_loadNow E) P PX K (n + 1) 29 [l0, l1, l2, l3, l4] (.int x :: r) (σ, sz, k, c) = ((0 ≤ x → zk_run E (zk_VT E) M_X11_loadNow (C_X11_loadNow E) P PX K n 35 [l0, l1, l2, l3, l4] r (σ, sz, k, c)) ∧ (¬ (0 ≤ x) → zk_run E (zk_VT E) M_X11_loadNow (C_X11_loadNow E) P PX K n 32 [l0, l1, l2, l3, l4] r (σ, sz, k, c)))) ∧
  (∀ (n : Nat) (l0 l1 l2 l3 l4 : Option Value)  (r : List Value) (σ : zk_S) (sz k c : Nat), zk_run E (zk_VT E) M_X11_loadNow (C_X11_loadNow E) P PX K (n + 1) 32 [l0, l1, l2, l3, l4] r (σ, sz, k, c) = zk_run E (zk_VT E) M_X11_loadNow (C_X11_loadNow E) P PX K n 86 [l0, l1, l2, l3, l4] r (σ, sz, k, c)) ∧
  (∀ (n : Nat) (l0 l1 l2 l4 : Option Value) (y3 : Int32) (r : List Value) (σ : zk_S) (sz k c : Nat), zk_run E (zk_VT E) M_X11_loadNow (C_X11_loadNow E) P PX K (n + 1) 35 [l0, l1, l2, some (.int y3), l4] r (σ, sz, k, c) = zk_run E (zk_VT E) M_X11_loadNow (C_X11_loadNow E) P PX K n 36 [l0, l1, l2, some (.int y3), l4] (.int y3 :: r) (σ, sz, k, c)) ∧
  (∀ (n : Nat) (l0 l1 l2 l3 l4 : Option Value) (x : Int32) (r : List Value) (σ : zk_S) (sz k c : Nat), zk_run E (zk_VT E) M_X11_loadNow (C_X11_loadNow E) P PX K (n + 1) 36 [l0, l1, l2, l3, l4] (.int x :: r) (σ, sz, k, c) = zk_run E (zk_VT E) M_X11_loadNow (C_X11_loadNow E) P PX K n 38 [l0, l1, l2, zk_kl l3, some (.int x)] r (σ, sz, k, c)) ∧
  (∀ (n : Nat) (l0 l1 l2 l3 l4 : Option Value)  (r : List Value) (σ : zk_S) (sz k c : Nat), zk_run E (zk_VT E) M_X11_loadNow (C_X11_loadNow E) P PX K (n + 1) 38 [l0, l1, l2, l3, l4] r (σ, sz, k, c) = K 38 [l0, l1, l2, l3, l4] r (σ, sz, k, c)) ∧
  (∀ (n : Nat) (l0 l1 l2 l3 l4 : Option Value)  (r : List Value) (σ : zk_S) (sz k c : Nat), zk_run E (zk_VT E) M_X11_loadNow (C_X11_loadNow E) P PX K (n + 1) 40 [l0, l1, l2, l3, l4] r (σ, sz, k, c) = zk_run E (zk_VT E) M_X11_loadNow (C_X11_loadNow E) P PX K n 41 [l0, l1, l2, l3, l4] (.int ((-1)) :: r) (σ, sz, k, c)) ∧
  (∀ (n : Nat) (l0 l1 l2 l3 l4 : Option Value) (x y : Int32) (r : List Value) (σ : zk_S) (sz k c : Nat), zk_run E (zk_VT E) M_X11_loadNow (C_X11_loadNow E) P PX K (n + 1) 41 [l0, l1, l2, l3, l4] (.int y :: .int x :: r) (σ, sz, k, c) = ((x = y → zk_run E (zk_VT E) M_X11_loadNow (C_X11_loadNow E) P PX K n 86 [l0, l1, l2, l3, l4] r (σ, sz, k, c)) ∧ (¬ (x = y) → zk_run E (zk_VT E) M_X11_loadNow (C_X11_loadNow E) P PX K n 44 [l0, l1, l2, l3, l4] r (σ, sz, k, c)))) ∧
  (∀ (n : Nat) (l0 l1 l3 l4 : Option Value) (y2 : Int32) (r : List Value) (σ : zk_S) (sz k c : Nat), zk_run E (zk_VT E) M_X11_loadNow (C_X11_loadNow E) P PX K (n + 1) 44 [l0, l1, some (.int y2), l3, l4] r (σ, sz, k, c) = zk_run E (zk_VT E) M_X11_loadNow (C_X11_loadNow E) P PX K n 45 [l0, l1, some (.int y2), l3, l4] (.int y2 :: r) (σ, sz, k, c)) ∧
  (∀ (n : Nat) (l1 l2 l3 l4 : Option Value) (y0 : Value) (r : List Value) (σ : zk_S) (sz k c : Nat), zk_run E (zk_VT E) M_X11_loadNow (C_X11_loadNow E) P PX K (n + 1) 45 [some y0, l1, l2, l3, l4] r (σ, sz, k, c) = (zk_isr y0 ∧ zk_run E (zk_VT E) M_X11_loadNow (C_X11_loadNow E) P PX K n 46 [some y0, l1, l2, l3, l4] (y0 :: r) (σ, sz, k, c))) ∧
  (∀ (n : Nat) (l0 l1 l2 l3 l4 : Option Value) (a : Nat) (r : List Value) (σ : zk_S) (sz k c : Nat), zk_run E (zk_VT E) M_X11_loadNow (C_X11_loadNow E) P PX K (n + 1) 46 [l0, l1, l2, l3, l4] (.ref a :: r) (σ, sz, k, c) = zk_fld (zk_view E σ a) [10] 30 (fun v => zk_run E (zk_VT E) M_X11_loadNow (C_X11_loadNow E) P PX K n 49 [l0, l1, l2, l3, l4] (v :: r) (σ, sz, k, c))) ∧
  (∀ (n : Nat) (l0 l1 l2 l3 : Option Value) (y4 : Int32) (r : List Value) (σ : zk_S) (sz k c : Nat), zk_run E (zk_VT E) M_X11_loadNow (C_X11_loadNow E) P PX K (n + 1) 49 [l0, l1, l2, l3, some (.int y4)] r (σ, sz, k, c) = zk_run E (zk_VT E) M_X11_loadNow (C_X11_loadNow E) P PX K n 51 [l0, l1, l2, l3, some (.int y4)] (.int y4 :: r) (σ, sz, k, c)) ∧
  (∀ (n : Nat) (l0 l1 l2 l3 l4 : Option Value) (a : Nat) (i : Int32) (r : List Value) (σ : zk_S) (sz k c : Nat), zk_run E (zk_VT E) M_X11_loadNow (C_X11_loadNow E) P PX K (n + 1) 51 [l0, l1, l2, l3, l4] (.int i :: .ref a :: r) (σ, sz, k, c) = zk_ild (zk_view E σ a) (zk_ar E 0) i (fun x => zk_run E (zk_VT E) M_X11_loadNow (C_X11_loadNow E) P PX K n 52 [l0, l1, l2, l3, l4] (.int x :: r) (σ, sz, k, c))) ∧
  (∀ (n : Nat) (l0 l1 l2 l3 l4 : Option Value)  (r : List Value) (σ : zk_S) (sz k c : Nat), zk_run E (zk_VT E) M_X11_loadNow (C_X11_loadNow E) P PX K (n + 1) 52 [l0, l1, l2, l3, l4] r (σ, sz, k, c) = zk_run E (zk_VT E) M_X11_loadNow (C_X11_loadNow E) P PX K n 53 [l0, l1, l2, l3, l4] (.int (2) :: r) (σ, sz, k, c)) ∧
  (∀ (n : Nat) (l0 l1 l2 l3 l4 : Option Value) (x y : Int32) (r : List Value) (σ : zk_S) (sz k c : Nat), zk_run E (zk_VT E) M_X11_loadNow (C_X11_loadNow E) P PX K (n + 1) 53 [l0, l1, l2, l3, l4] (.int y :: .int x :: r) (σ, sz, k, c) = (¬ y = 0 ∧ zk_run E (zk_VT E) M_X11_loadNow (C_X11_loadNow E) P PX K n 54 [l0, l1, l2, l3, l4] (.int (x / y) :: r) (σ, sz, k, c))) ∧
  (∀ (n : Nat) (l0 l2 l3 l4 : Option Value) (y1 : Int32) (r : List Value) (σ : zk_S) (sz k c : Nat), zk_run E (zk_VT E) M_X11_loadNow (C_X11_loadNow E) P PX K (n + 1) 54 [l0, some (.int y1), l2, l3, l4] r (σ, sz, k, c) = zk_run E (zk_VT E) M_X11_loadNow (C_X11_loadNow E) P PX K n 55 [l0, some (.int y1), l2, l3, l4] (.int y1 :: r) (σ, sz, k, c)) ∧
  (∀ (n : Nat) (l0 l1 l2 l3 l4 : Option Value) (x y : Int32) (r : List Value) (σ : zk_S) (sz k c : Nat), zk_run E (zk_VT E) M_X11_loadNow (C_X11_loadNow E) P PX K (n + 1) 55 [l0, l1, l2, l3, l4] (.int y :: .int x :: r) (σ, sz, k, c) = ((¬ x = y → zk_run E (zk_VT E) M_X11_loadNow (C_X11_loadNow E) P PX K n 67 [l0, l1, l2, l3, l4] r (σ, sz, k, c)) ∧ (¬ (¬ x = y) → zk_run E (zk_VT E) M_X11_loadNow (C_X11_loadNow E) P PX K n 58 [l0, l1, l2, l3, l4] r (σ, sz, k, c)))) ∧
  (∀ (n : Nat) (l1 l2 l3 l4 : Option Value) (y0 : Value) (r : List Value) (σ : zk_S) (sz k c : Nat), zk_run E (zk_VT E) M_X11_loadNow (C_X11_loadNow E) P PX K (n + 1) 58 [some y0, l1, l2, l3, l4] r (σ, sz, k, c) = (zk_isr y0 ∧ zk_run E (zk_VT E) M_X11_loadNow (C_X11_loadNow E) P PX K n 59 [some y0, l1, l2, l3, l4] (y0 :: r) (σ, sz, k, c))) ∧
  (∀ (n : Nat) (l0 l1 l2 l3 l4 : Option Value) (a : Nat) (r : List Value) (σ : zk_S) (sz k c : Nat), zk_run E (zk_VT E) M_X11_loadNow (C_X11_loadNow E) P PX K (n + 1) 59 [l0, l1, l2, l3, l4] (.ref a :: r) (σ, sz, k, c) = zk_fld (zk_view E σ a) [10] 8 (fun v => zk_run E (zk_VT E) M_X11_loadNow (C_X11_loadNow E) P PX K n 62 [l0, l1, l2, l3, l4] (v :: r) (σ, sz, k, c))) ∧
  (∀ (n : Nat) (l0 l1 l2 l4 : Option Value) (y3 : Int32) (r : List Value) (σ : zk_S) (sz k c : Nat), zk_run E (zk_VT E) M_X11_loadNow (C_X11_loadNow E) P PX K (n + 1) 62 [l0, l1, l2, some (.int y3), l4] r (σ, sz, k, c) = zk_run E (zk_VT E) M_X11_loadNow (C_X11_loadNow E) P PX K n 63 [l0, l1, l2, some (.int y3), l4] (.int y3 :: r) (σ, sz, k, c)) ∧
  (∀ (n : Nat) (l0 l1 l2 l3 l4 : Option Value) (a : Nat) (i : Int32) (r : List Value) (σ : zk_S) (sz k c : Nat), zk_run E (zk_VT E) M_X11_loadNow (C_X11_loadNow E) P PX K (n + 1) 63 [l0, l1, l2, l3, l4] (.int i :: .ref a :: r) (σ, sz, k, c) = zk_ild (zk_view E σ a) (zk_ar E 0) i (fun x => zk_run E (zk_VT E) M_X11_loadNow (C_X11_loadNow E) P PX K n 64 [l0, l1, l2, l3, l4] (.int x :: r) (σ, sz, k, c))) ∧
  (∀ (n : Nat) (l0 l1 l2 l3 l4 : Option Value)  (r : List Value) (σ : zk_S) (sz k c : Nat), zk_run E (zk_VT E) M_X11_loadNow (C_X11_loadNow E) P PX K (n + 1) 64 [l0, l1, l2, l3, l4] r (σ, sz, k, c) = zk_run E (zk_VT E) M_X11_loadNow (C_X11_loadNow E) P PX K n 68 [l0, l1, l2, l3, l4] r (σ, sz, k, c)) ∧
  (∀ (n : Nat) (l0 l1 l2 l3 l4 : Option Value)  (r : List Value) (σ : zk_S) (sz k c : Nat), zk_run E (zk_VT E) M_X11_loadNow (C_X11_loadNow E) P PX K (n + 1) 67 [l0, l1, l2, l3, l4] r (σ, sz, k, c) = zk_run E (zk_VT E) M_X11_loadNow (C_X11_loadNow E) P PX K n 68 [l0, l1, l2, l3, l4] (.int (0) :: r) (σ, sz, k, c)) := ⟨by intros; rfl, by intros; rfl, by intros; rfl, by intros; rfl, by intros; rfl, by intros; rfl, by intros; rfl, by intros; rfl, by intros; rfl, by intros; rfl, by intros; rfl, by intros; rfl, by intros; rfl, by intros; rfl, by intros; rfl, by intros; rfl, by intros; rfl, by intros; rfl, by intros; rfl, by intros; rfl, by intros; rfl, by intros; rfl, by intros; rfl, by intros; rfl, by intros; rfl, by intros; rfl, by intros; rfl, by intros; rfl, by intros; rfl, by intros; rfl, by intros; rfl, by intros; rfl, by intros; rfl, by intros; rfl, by intros; rfl, by intros; rfl, by intros; rfl, by intros; rfl, by intros; rfl, by intros; rfl⟩
theorem r_X11_loadNow_1 (E : zk_E) (P : zk_P zk_S) (PX : zk_X zk_S) (K : Nat → zk_L → List Value → zk_W zk_S → Prop) : (∀ (n : Nat) (l0 l1 l2 l3 l4 : Option Value) (x y : Int32) (r : List Value) (σ : zk_S) (sz k c : Nat), zk_run E (zk_VT E) M_X11_loadNow (C_X11_loadNow E) P PX K (n + 1) 68 [l0, l1, l2, l3, l4] (.int y :: .int x :: r) (σ, sz, k, c) = zk_run E (zk_VT E) M_X11_loadNow (C_X11_loadNow E) P PX K n 69 [l0, l1, l2, l3, l4] (.int (x + y) :: r) (σ, sz, k, c)) ∧
  (∀ (n : Nat) (l0 l1 l2 l3 l4 : Option Value) (x : Int32) (r : List Value) (σ : zk_S) (sz k c : Nat), zk_run E (zk_VT E) M_X11_loadNow (C_X11_loadNow E) P PX K (n + 1) 69 [l0, l1, l2, l3, l4] (.int x :: r) (σ, sz, k, c) = zk_run E (zk_VT E) M_X11_loadNow (C_X11_loadNow E) P PX K n 70 [l0, zk_kl l1, some (.int x), l3, l4] r (σ, sz, k, c)) ∧
  (∀ (n : Nat) (l1 l2 l3 l4 : Option Value) (y0 : Value) (r : List Value) (σ : zk_S) (sz k c : Nat), zk_run E (zk_VT E) M_X11_loadNow (C_X11_loadNow E) P PX K (n + 1) 70 [some y0, l1, l2, l3, l4] r (σ, sz, k, c) = (zk_isr y0 ∧ zk_run E (zk_VT E) M_X11_loadNow (C_X11_loadNow E) P PX K n 71 [some y0, l1, l2, l3, l4] (y0 :: r) (σ, sz, k, c))) ∧
  (∀ (n : Nat) (l1 l2 l3 l4 : Option Value) (y0 : Value) (r : List Value) (σ : zk_S) (sz k c : Nat), zk_run E (zk_VT E) M_X11_loadNow (C_X11_loadNow E) P PX K (n + 1) 71 [some y0, l1, l2, l3, l4] r (σ, sz, k, c) = (zk_isr y0 ∧ zk_run E (zk_VT E) M_X11_loadNow (C_X11_loadNow E) P PX K n 72 [some y0, l1, l2, l3, l4] (y0 :: r) (σ, sz, k, c))) ∧
  (∀ (n : Nat) (l0 l1 l2 l3 l4 : Option Value) (a : Nat) (r : List Value) (σ : zk_S) (sz k c : Nat), zk_run E (zk_VT E) M_X11_loadNow (C_X11_loadNow E) P PX K (n + 1) 72 [l0, l1, l2, l3, l4] (.ref a :: r) (σ, sz, k, c) = zk_fld (zk_view E σ a) [10] 30 (fun v => zk_run E (zk_VT E) M_X11_loadNow (C_X11_loadNow E) P PX K n 75 [l0, l1, l2, l3, l4] (v :: r) (σ, sz, k, c))) ∧
  (∀ (n : Nat) (l0 l1 l2 l3 : Option Value) (y4 : Int32) (r : List Value) (σ : zk_S) (sz k c : Nat), zk_run E (zk_VT E) M_X11_loadNow (C_X11_loadNow E) P PX K (n + 1) 75 [l0, l1, l2, l3, some (.int y4)] r (σ, sz, k, c) = zk_run E (zk_VT E) M_X11_loadNow (C_X11_loadNow E) P PX K n 77 [l0, l1, l2, l3, some (.int y4)] (.int y4 :: r) (σ, sz, k, c)) ∧
  (∀ (n : Nat) (l0 l1 l2 l3 l4 : Option Value) (a : Nat) (i : Int32) (r : List Value) (σ : zk_S) (sz k c : Nat), zk_run E (zk_VT E) M_X11_loadNow (C_X11_loadNow E) P PX K (n + 1) 77 [l0, l1, l2, l3, l4] (.int i :: .ref a :: r) (σ, sz, k, c) = zk_ild (zk_view E σ a) (zk_ar E 0) i (fun x => zk_run E (zk_VT E) M_X11_loadNow (C_X11_loadNow E) P PX K n 78 [l0, l1, l2, l3, l4] (.int x :: r) (σ, sz, k, c))) ∧
  (∀ (n : Nat) (l0 l1 l2 l3 l4 : Option Value) (v0 : Value) (v1 : Value)  (σ : zk_S) (sz k c : Nat), zk_run E (zk_VT E) M_X11_loadNow (C_X11_loadNow E) P PX K (n + 1) 78 [l0, l1, l2, l3, l4] [v0, v1] (σ, sz, k, c) = (k + 0 ≤ 0 ∧ c + 0 ≤ 0 ∧ (zk_rv (zk_VT E) (fun ci => Nat.beq ci 10) (sp_X11_into E)) [v1, v0] σ sz (fun v s2 z2 => zk_run E (zk_VT E) M_X11_loadNow (C_X11_loadNow E) P PX K n 81 [l0, l1, l2, l3, l4] (zk_psh v []) (s2, z2, k + 0, c + 0)) (fun X s2 z2 => PX X s2 z2))) ∧
  (∀ (n : Nat) (l0 l1 l2 l3 l4 : Option Value) (x : Int32) (r : List Value) (σ : zk_S) (sz k c : Nat), zk_run E (zk_VT E) M_X11_loadNow (C_X11_loadNow E) P PX K (n + 1) 81 [l0, l1, l2, l3, l4] (.int x :: r) (σ, sz, k, c) = zk_run E (zk_VT E) M_X11_loadNow (C_X11_loadNow E) P PX K n 83 [l0, l1, l2, zk_kl l3, some (.int x)] r (σ, sz, k, c)) ∧
  (∀ (n : Nat) (l0 l1 l2 l3 l4 : Option Value)  (r : List Value) (σ : zk_S) (sz k c : Nat), zk_run E (zk_VT E) M_X11_loadNow (C_X11_loadNow E) P PX K (n + 1) 83 [l0, l1, l2, l3, l4] r (σ, sz, k, c) = zk_run E (zk_VT E) M_X11_loadNow (C_X11_loadNow E) P PX K n 38 [l0, l1, l2, l3, l4] r (σ, sz, k, c)) ∧
  (∀ (n : Nat) (l0 l1 l2 l4 : Option Value) (y3 : Int32) (r : List Value) (σ : zk_S) (sz k c : Nat), zk_run E (zk_VT E) M_X11_loadNow (C_X11_loadNow E) P PX K (n + 1) 86 [l0, l1, l2, some (.int y3), l4] r (σ, sz, k, c) = zk_run E (zk_VT E) M_X11_loadNow (C_X11_loadNow E) P PX K n 89 [l0, l1, zk_kl l2, some (.int (y3 + 1)), l4] r (σ, sz, k, c)) ∧
  (∀ (n : Nat) (l0 l1 l2 l3 l4 : Option Value)  (r : List Value) (σ : zk_S) (sz k c : Nat), zk_run E (zk_VT E) M_X11_loadNow (C_X11_loadNow E) P PX K (n + 1) 89 [l0, l1, l2, l3, l4] r (σ, sz, k, c) = zk_run E (zk_VT E) M_X11_loadNow (C_X11_loadNow E) P PX K n 4 [l0, l1, l2, l3, l4] r (σ, sz, k, c)) ∧
  (∀ (n : Nat) (l0 l1 l3 l4 : Option Value) (y2 : Int32) (r : List Value) (σ : zk_S) (sz k c : Nat), zk_run E (zk_VT E) M_X11_loadNow (C_X11_loadNow E) P PX K (n + 1) 92 [l0, l1, some (.int y2), l3, l4] r (σ, sz, k, c) = zk_run E (zk_VT E) M_X11_loadNow (C_X11_loadNow E) P PX K n 93 [l0, l1, some (.int y2), l3, l4] (.int y2 :: r) (σ, sz, k, c)) ∧
  (∀ (n : Nat) (l0 l1 l2 l3 l4 : Option Value) (x : Int32)  (σ : zk_S) (sz k c : Nat), zk_run E (zk_VT E) M_X11_loadNow (C_X11_loadNow E) P PX K (n + 1) 93 [l0, l1, l2, l3, l4] [.int x] (σ, sz, k, c) = (zk_nok (some (.int)) x ∧ P (some (.int x)) σ sz ∧ k ≤ 0 ∧ c ≤ 0)) ∧
  (∀ (n : Nat) (l0 l1 l2 l3 l4 : Option Value) (r : List Value) (w : zk_W zk_S), zk_go E (zk_VT E) M_X11_loadNow (C_X11_loadNow E) P PX K n 0 [l0, l1, l2, l3, l4] r w = zk_run E (zk_VT E) M_X11_loadNow (C_X11_loadNow E) P PX K (n + 1) 0 [l0, l1, l2, l3, l4] r w) ∧
  (∀ (n : Nat) (l0 l1 l2 l4 : Option Value) (y3 : Int32) (r : List Value) (σ : zk_S) (sz k c : Nat), zk_go E (zk_VT E) M_X11_loadNow (C_X11_loadNow E) P PX K n 4 [l0, l1, l2, some (.int y3), l4] r (σ, sz, k, c) = zk_run E (zk_VT E) M_X11_loadNow (C_X11_loadNow E) P PX K n 5 [l0, l1, l2, some (.int y3), l4] (.int y3 :: r) (σ, sz, k, c)) ∧
  (∀ (n : Nat) (l0 l1 l2 l3 : Option Value) (y4 : Int32) (r : List Value) (σ : zk_S) (sz k c : Nat), zk_go E (zk_VT E) M_X11_loadNow (C_X11_loadNow E) P PX K n 38 [l0, l1, l2, l3, some (.int y4)] r (σ, sz, k, c) = zk_run E (zk_VT E) M_X11_loadNow (C_X11_loadNow E) P PX K n 40 [l0, l1, l2, l3, some (.int y4)] (.int y4 :: r) (σ, sz, k, c)) := ⟨by intros; rfl, by intros; rfl, by intros; rfl, by intros; rfl, by intros; rfl, by intros; rfl, by intros; rfl, by intros; rfl, by intros; rfl, by intros; rfl, by intros; rfl, by intros; rfl, by intros; rfl, by intros; rfl, by intros; rfl, by intros; rfl, by intros; rfl⟩
theorem vc_X11_loadNow (E : zk_E) : zk_VC E (zk_VT E) M_X11_loadNow (C_X11_loadNow E) 5 (sp_X11_loadNow E) := by
  intro av σ sz P PX h
  obtain ⟨J, N, Q, O, U⟩ := σ
  unfold sp_X11_loadNow at h
  split at h
  case h_2 => exact h.elim
  rename_i a0 x
  obtain ⟨rfl, h⟩ := h
  refine ⟨Nat.le_of_ble_eq_true rfl, fun G hG => ?_⟩
  change G 0 [some (.ref (zk_ad E 22)), some (.int x), none, none, none] [] ((J, N, Q, O, U), sz, 0, 0)
  try dsimp only at h
  obtain ⟨hmi, hsv, ⟨k, hk, rfl⟩, h⟩ := h
  have hms := hmi.1
  have hnr := hms.1.1
  have hnr20 := hms.1.2
  rw [n_cl (by omega)] at h
  have loop : ∀ m r l4, r + m = m_nr J → G 4 [some (.ref (zk_ad E 22)), some (.int (nI k)), some (.int (g_ld J N k r)), some (.int (nI r)), l4] [] ((J, N, Q, O, U), sz, 0, 0) := by
    intro m
    induction m with
    | zero =>
      intro r l4 hr
      have c1 : nI (m_nr J) ≤ nI r := nI_le (by omega) (by omega)
      (refine hG 900 _ _ _ _ ?_; simp only [r_X11_loadNow, r_X11_loadNow_1, zk_kl_none, zk_kl_int, zk_kl_ref, zk_kl_null, zk_kl_long, zk_kl_rf, zk_isr_ref, zk_isr_null, zk_isr_rf9, zk_c1_int, zk_c1_ref, zk_c1_null, zk_c1_rf, zk_psh_some, zk_psh_none, zk_nok_int, zk_nok_bool0, zk_nok_bool1, zk_nok_b, zk_fok_0, zk_fok_1, zk_fok_2, zk_fok_n, zk_fok_rf, zb_f, zb_p, zb_i, zb_a, zb_s, zk_nth_0, zk_nth_s, zk_fld_o, zk_put_o, zk_rv_eq, zk_ri_eq, zk_is_o, List.mem_cons, List.not_mem_nil, or_false, false_or, or_true, true_or, and_true, true_and, not_false_iff, not_true_eq_false, true_implies, false_implies, imp_self, implies_true, forall_const, zk_lit, zk_uj_ap, zk_un_ap, zk_un_un, zk_uj_uj, Nat.reduceEqDiff, eq_self, zk_bq, Bool.true_or, Bool.false_or, Nat.le_refl, Nat.zero_add, Nat.add_zero, Nat.reduceAdd, Nat.reduceLeDiff, Nat.le_zero_eq, and_self, and_false, false_and, ite_true, ite_false, Nat.zero_le, List.length_cons, List.length_nil, Option.some.injEq, forall_eq', reduceCtorEq, hnr, c1])
      rw [show r = m_nr J by omega]
      exact h
    | succ m ih =>
      intro r l4 hr
      have c1 : ¬ nI (m_nr J) ≤ nI r := nI_ge (by omega) (by omega)
      have ih2 := fun l4 => ih (r + 1) l4 (by omega)
      have hin : vp_in (nI r) 20 := n_in (by omega) (by decide)
      have hcl : (nI r).toNatClampNeg = r := n_cl (by omega)
      rw [g_ld] at ih2
      by_cases q1 : N 23 r = -2
      · rw [if_pos (Or.inl q1)] at ih2
        (refine hG 900 _ _ _ _ ?_; simp only [r_X11_loadNow, r_X11_loadNow_1, zk_kl_none, zk_kl_int, zk_kl_ref, zk_kl_null, zk_kl_long, zk_kl_rf, zk_isr_ref, zk_isr_null, zk_isr_rf9, zk_c1_int, zk_c1_ref, zk_c1_null, zk_c1_rf, zk_psh_some, zk_psh_none, zk_nok_int, zk_nok_bool0, zk_nok_bool1, zk_nok_b, zk_fok_0, zk_fok_1, zk_fok_2, zk_fok_n, zk_fok_rf, zb_f, zb_p, zb_i, zb_a, zb_s, zk_nth_0, zk_nth_s, zk_fld_o, zk_put_o, zk_rv_eq, zk_ri_eq, zk_is_o, List.mem_cons, List.not_mem_nil, or_false, false_or, or_true, true_or, and_true, true_and, not_false_iff, not_true_eq_false, true_implies, false_implies, imp_self, implies_true, forall_const, zk_lit, zk_uj_ap, zk_un_ap, zk_un_un, zk_uj_uj, Nat.reduceEqDiff, eq_self, zk_bq, Bool.true_or, Bool.false_or, Nat.le_refl, Nat.zero_add, Nat.add_zero, Nat.reduceAdd, Nat.reduceLeDiff, Nat.le_zero_eq, and_self, and_false, false_and, ite_true, ite_false, Nat.zero_le, List.length_cons, List.length_nil, Option.some.injEq, forall_eq', reduceCtorEq, hnr, c1, hin, hcl, q1, n_succ])
        exact ih2 _
      · have h50 := (hsv.2.2 r (by omega)).2.2
        rcases g_dep_cases J N 21 (nI r) 0 with q2 | ⟨t, t1, t2, q2⟩
        · rw [if_pos (Or.inr (show g_deep J N r = -1 from q2))] at ih2
          rw [show g_deep J N r = -1 from q2] at h50
          have c3 : ¬ (0 : Int32) ≤ -1 := by decide
          (refine hG 900 _ _ _ _ ?_; simp only [r_X11_loadNow, r_X11_loadNow_1, zk_kl_none, zk_kl_int, zk_kl_ref, zk_kl_null, zk_kl_long, zk_kl_rf, zk_isr_ref, zk_isr_null, zk_isr_rf9, zk_c1_int, zk_c1_ref, zk_c1_null, zk_c1_rf, zk_psh_some, zk_psh_none, zk_nok_int, zk_nok_bool0, zk_nok_bool1, zk_nok_b, zk_fok_0, zk_fok_1, zk_fok_2, zk_fok_n, zk_fok_rf, zb_f, zb_p, zb_i, zb_a, zb_s, zk_nth_0, zk_nth_s, zk_fld_o, zk_put_o, zk_rv_eq, zk_ri_eq, zk_is_o, List.mem_cons, List.not_mem_nil, or_false, false_or, or_true, true_or, and_true, true_and, not_false_iff, not_true_eq_false, true_implies, false_implies, imp_self, implies_true, forall_const, zk_lit, zk_uj_ap, zk_un_ap, zk_un_un, zk_uj_uj, Nat.reduceEqDiff, eq_self, zk_bq, Bool.true_or, Bool.false_or, Nat.le_refl, Nat.zero_add, Nat.add_zero, Nat.reduceAdd, Nat.reduceLeDiff, Nat.le_zero_eq, and_self, and_false, false_and, ite_true, ite_false, Nat.zero_le, List.length_cons, List.length_nil, Option.some.injEq, forall_eq', reduceCtorEq, hnr, c1, hin, hcl, q1, h50, c3, n_succ])
          exact ih2 _
        · have q3 : ¬ g_dep J N 21 (nI r) 0 = -1 := by rw [q2]; exact nI_ne1 (by omega)
          rw [if_neg (fun w => w.elim q1 q3)] at ih2
          rw [show g_deep J N r = nI t from q2] at h50
          have c3 : (0 : Int32) ≤ nI t := nI_nn (by omega)
          have walk : ∀ f m at4 s, ¬ g_dep J N f at4 m = -1 → (at4 = -1 ∨ ∃ q, q < m_nr J ∧ at4 = nI q) → (∀ l4, G 4 [some (.ref (zk_ad E 22)), some (.int (nI k)), some (.int (g_ldp J N k (N 29 r) f at4 s)), some (.int (nI (r + 1))), l4] [] ((J, N, Q, O, U), sz, 0, 0)) →
              G 38 [some (.ref (zk_ad E 22)), some (.int (nI k)), some (.int s), some (.int (nI r)), some (.int at4)] [] ((J, N, Q, O, U), sz, 0, 0) := by
            intro f
            induction f with
            | zero => intro m at4 s hd; exact absurd rfl hd
            | succ f ihf =>
              intro m at4 s hd hat hG4
              rw [g_ldp] at hG4
              rw [g_dep] at hd
              rcases hat with rfl | ⟨q, hq, rfl⟩
              · rw [if_pos rfl] at hG4
                (refine hG 900 _ _ _ _ ?_; simp only [r_X11_loadNow, r_X11_loadNow_1, zk_kl_none, zk_kl_int, zk_kl_ref, zk_kl_null, zk_kl_long, zk_kl_rf, zk_isr_ref, zk_isr_null, zk_isr_rf9, zk_c1_int, zk_c1_ref, zk_c1_null, zk_c1_rf, zk_psh_some, zk_psh_none, zk_nok_int, zk_nok_bool0, zk_nok_bool1, zk_nok_b, zk_fok_0, zk_fok_1, zk_fok_2, zk_fok_n, zk_fok_rf, zb_f, zb_p, zb_i, zb_a, zb_s, zk_nth_0, zk_nth_s, zk_fld_o, zk_put_o, zk_rv_eq, zk_ri_eq, zk_is_o, List.mem_cons, List.not_mem_nil, or_false, false_or, or_true, true_or, and_true, true_and, not_false_iff, not_true_eq_false, true_implies, false_implies, imp_self, implies_true, forall_const, zk_lit, zk_uj_ap, zk_un_ap, zk_un_un, zk_uj_uj, Nat.reduceEqDiff, eq_self, zk_bq, Bool.true_or, Bool.false_or, Nat.le_refl, Nat.zero_add, Nat.add_zero, Nat.reduceAdd, Nat.reduceLeDiff, Nat.le_zero_eq, and_self, and_false, false_and, ite_true, ite_false, Nat.zero_le, List.length_cons, List.length_nil, Option.some.injEq, forall_eq', reduceCtorEq, n_succ])
                exact hG4 _
              · have c2 := nI_ne1 (r := q) (by omega)
                have hin2 : vp_in (nI q) 20 := n_in (by omega) (by decide)
                have hcl2 : (nI q).toNatClampNeg = q := n_cl (by omega)
                rw [if_neg c2, hcl2] at hG4 hd
                have h48 := (hsv.2.2 q hq).1
                by_cases q1 : lea J N q = 100
                · rw [if_pos q1] at hd; exact absurd rfl hd
                · rw [if_neg q1] at hd
                  have ha := lea_act q1
                  have he := (m_act_mem.mp ha.1).1
                  rw [show g_lv (lea J N q) = nI (lea J N q) from if_neg q1] at h48
                  have hx3 : ∃ e1, e1 < 100 ∧ nI (lea J N q) = nI e1 := ⟨_, he, rfl⟩
                  have hcl3 : (nI (lea J N q)).toNatClampNeg = lea J N q := n_cl (by omega)
                  have h1 : nI (lea J N q) / 2 = nI (lea J N q / 2) := n_div2 (by omega)
                  have ih3 := ihf (m + 1) (m_into N (lea J N q)) _ hd (by
                    obtain ⟨r, -, -, w | ⟨q2, w1, w2, w3⟩⟩ := m_ends hmi ha.1
                    · exact Or.inl w
                    · exact Or.inr ⟨q2, w1.1, w3⟩) hG4
                  by_cases qk : lea J N q / 2 = k
                  · rw [if_pos qk] at ih3
                    have c4 : (nI (lea J N q / 2) = nI k) = True := eq_true (by rw [qk])
                    (refine hG 900 _ _ _ _ ?_; simp only [r_X11_loadNow, r_X11_loadNow_1, zk_kl_none, zk_kl_int, zk_kl_ref, zk_kl_null, zk_kl_long, zk_kl_rf, zk_isr_ref, zk_isr_null, zk_isr_rf9, zk_c1_int, zk_c1_ref, zk_c1_null, zk_c1_rf, zk_psh_some, zk_psh_none, zk_nok_int, zk_nok_bool0, zk_nok_bool1, zk_nok_b, zk_fok_0, zk_fok_1, zk_fok_2, zk_fok_n, zk_fok_rf, zb_f, zb_p, zb_i, zb_a, zb_s, zk_nth_0, zk_nth_s, zk_fld_o, zk_put_o, zk_rv_eq, zk_ri_eq, zk_is_o, List.mem_cons, List.not_mem_nil, or_false, false_or, or_true, true_or, and_true, true_and, not_false_iff, not_true_eq_false, true_implies, false_implies, imp_self, implies_true, forall_const, zk_lit, zk_uj_ap, zk_un_ap, zk_un_un, zk_uj_uj, Nat.reduceEqDiff, eq_self, zk_bq, Bool.true_or, Bool.false_or, Nat.le_refl, Nat.zero_add, Nat.add_zero, Nat.reduceAdd, Nat.reduceLeDiff, Nat.le_zero_eq, and_self, and_false, false_and, ite_true, ite_false, Nat.zero_le, List.length_cons, List.length_nil, Option.some.injEq, forall_eq', reduceCtorEq, c2, hin, hcl, hin2, hcl2, h48, hx3, hcl3, h1, c4, spe_X11_into])
                    exact ih3
                  · rw [if_neg qk] at ih3
                    have c4 : ¬ nI (lea J N q / 2) = nI k := by rw [n_inj (by omega) (by omega)]; exact qk
                    (refine hG 900 _ _ _ _ ?_; simp only [r_X11_loadNow, r_X11_loadNow_1, zk_kl_none, zk_kl_int, zk_kl_ref, zk_kl_null, zk_kl_long, zk_kl_rf, zk_isr_ref, zk_isr_null, zk_isr_rf9, zk_c1_int, zk_c1_ref, zk_c1_null, zk_c1_rf, zk_psh_some, zk_psh_none, zk_nok_int, zk_nok_bool0, zk_nok_bool1, zk_nok_b, zk_fok_0, zk_fok_1, zk_fok_2, zk_fok_n, zk_fok_rf, zb_f, zb_p, zb_i, zb_a, zb_s, zk_nth_0, zk_nth_s, zk_fld_o, zk_put_o, zk_rv_eq, zk_ri_eq, zk_is_o, List.mem_cons, List.not_mem_nil, or_false, false_or, or_true, true_or, and_true, true_and, not_false_iff, not_true_eq_false, true_implies, false_implies, imp_self, implies_true, forall_const, zk_lit, zk_uj_ap, zk_un_ap, zk_un_un, zk_uj_uj, Nat.reduceEqDiff, eq_self, zk_bq, Bool.true_or, Bool.false_or, Nat.le_refl, Nat.zero_add, Nat.add_zero, Nat.reduceAdd, Nat.reduceLeDiff, Nat.le_zero_eq, and_self, and_false, false_and, ite_true, ite_false, Nat.zero_le, List.length_cons, List.length_nil, Option.some.injEq, forall_eq', reduceCtorEq, c2, hin, hcl, hin2, hcl2, h48, hx3, hcl3, h1, c4, spe_X11_into])
                    exact ih3
          have w0 := walk 21 0 (nI r) (g_ld J N k r) q3 (Or.inr ⟨r, by omega, rfl⟩) ih2
          (refine hG 900 _ _ _ _ ?_; simp only [r_X11_loadNow, r_X11_loadNow_1, zk_kl_none, zk_kl_int, zk_kl_ref, zk_kl_null, zk_kl_long, zk_kl_rf, zk_isr_ref, zk_isr_null, zk_isr_rf9, zk_c1_int, zk_c1_ref, zk_c1_null, zk_c1_rf, zk_psh_some, zk_psh_none, zk_nok_int, zk_nok_bool0, zk_nok_bool1, zk_nok_b, zk_fok_0, zk_fok_1, zk_fok_2, zk_fok_n, zk_fok_rf, zb_f, zb_p, zb_i, zb_a, zb_s, zk_nth_0, zk_nth_s, zk_fld_o, zk_put_o, zk_rv_eq, zk_ri_eq, zk_is_o, List.mem_cons, List.not_mem_nil, or_false, false_or, or_true, true_or, and_true, true_and, not_false_iff, not_true_eq_false, true_implies, false_implies, imp_self, implies_true, forall_const, zk_lit, zk_uj_ap, zk_un_ap, zk_un_un, zk_uj_uj, Nat.reduceEqDiff, eq_self, zk_bq, Bool.true_or, Bool.false_or, Nat.le_refl, Nat.zero_add, Nat.add_zero, Nat.reduceAdd, Nat.reduceLeDiff, Nat.le_zero_eq, and_self, and_false, false_and, ite_true, ite_false, Nat.zero_le, List.length_cons, List.length_nil, Option.some.injEq, forall_eq', reduceCtorEq, hnr, c1, hin, hcl, q1, h50, c3])
          exact w0
  have l0 := loop (m_nr J) 0 none (by omega)
  (refine hG 900 _ _ _ _ ?_; simp only [r_X11_loadNow, r_X11_loadNow_1, zk_kl_none, zk_kl_int, zk_kl_ref, zk_kl_null, zk_kl_long, zk_kl_rf, zk_isr_ref, zk_isr_null, zk_isr_rf9, zk_c1_int, zk_c1_ref, zk_c1_null, zk_c1_rf, zk_psh_some, zk_psh_none, zk_nok_int, zk_nok_bool0, zk_nok_bool1, zk_nok_b, zk_fok_0, zk_fok_1, zk_fok_2, zk_fok_n, zk_fok_rf, zb_f, zb_p, zb_i, zb_a, zb_s, zk_nth_0, zk_nth_s, zk_fld_o, zk_put_o, zk_rv_eq, zk_ri_eq, zk_is_o, List.mem_cons, List.not_mem_nil, or_false, false_or, or_true, true_or, and_true, true_and, not_false_iff, not_true_eq_false, true_implies, false_implies, imp_self, implies_true, forall_const, zk_lit, zk_uj_ap, zk_un_ap, zk_un_un, zk_uj_uj, Nat.reduceEqDiff, eq_self, zk_bq, Bool.true_or, Bool.false_or, Nat.le_refl, Nat.zero_add, Nat.add_zero, Nat.reduceAdd, Nat.reduceLeDiff, Nat.le_zero_eq, and_self, and_false, false_and, ite_true, ite_false, Nat.zero_le, List.length_cons, List.length_nil, Option.some.injEq, forall_eq', reduceCtorEq])
  exact l0
theorem ct_X11_loadNow {l : Launch} (hl : l.stackTraces = false) (E : zk_E) : zk_C l E (zk_VT E) yX11_loadNow cX11_loadNow 5 (some (.int)) rm_X11_loadNow (sp_X11_loadNow E) := by
  refine zk_meth (M := M_X11_loadNow) (C := C_X11_loadNow E) hl (by decide +kernel) rfl (fun _ _ => rfl) (zk_VT_ok E) MO_X11_loadNow TO_X11_loadNow THo_X11_loadNow ?_ (vc_X11_loadNow E)
  exact fun p e s m args below meth c X pc n mc ms sp2 h => by
    have h2 := zk_lka_mem h
    simp only [List.mem_cons, List.not_mem_nil, or_false, Prod.mk.injEq] at h2
    rcases h2 with ⟨rfl, rfl, rfl, rfl, rfl⟩
    exact zk_coV (idx := 213) X (ct_X11_into hl E) (List.forall_mem_cons.mpr ⟨zk_wi 1239 (by decide +kernel) rfl, List.forall_mem_cons.mpr ⟨zk_wi 1241 (by decide +kernel) rfl, List.forall_mem_cons.mpr ⟨zk_wp 27 (by decide +kernel) rfl, List.forall_mem_cons.mpr ⟨zk_wi 6 (by decide +kernel) rfl, List.forall_mem_cons.mpr ⟨zk_wi 1242 (by decide +kernel) rfl, fun _ h => absurd h List.not_mem_nil⟩⟩⟩⟩⟩) (fun ci h => by
      have h := Nat.eq_of_beq_eq_true h
      subst h
      exact ⟨_, _, rfl⟩) (by decide +kernel) ⟨by decide, by decide, by decide +kernel⟩ ⟨by decide, by decide⟩
def sp_X11_load (E : zk_E) : zk_Sp zk_S := fun av σ sz P PX => match av with
  | [.ref a, .int r] => a = zk_ad E 22 ∧ MI σ.1 σ.2.1 ∧ DRD σ.1 σ.2.1 r (fun j => ∀ J2 N2, QE σ.1 J2 σ.2.1 N2 0 → P (some (.int (a_load σ.1 σ.2.1 j))) (J2, N2, σ.2.2) sz) (∀ J2 N2, QE σ.1 J2 σ.2.1 N2 1 → P (some (.int 0)) (J2, N2, σ.2.2) sz)
  | _ => False
theorem spe_X11_load (E : zk_E) (a : Nat) (r : Int32) (σ : zk_S) (sz : Nat) (P : zk_P zk_S) (PX : zk_X zk_S) : sp_X11_load E [.ref a, .int r] σ sz P PX = (a = zk_ad E 22 ∧ MI σ.1 σ.2.1 ∧ DRD σ.1 σ.2.1 r (fun j => ∀ J2 N2, QE σ.1 J2 σ.2.1 N2 0 → P (some (.int (a_load σ.1 σ.2.1 j))) (J2, N2, σ.2.2) sz) (∀ J2 N2, QE σ.1 J2 σ.2.1 N2 1 → P (some (.int 0)) (J2, N2, σ.2.2) sz)) := propext Iff.rfl
def C_X11_load (E : zk_E) : zk_Cl zk_S := zk_lka [(7, 2, 0, 0, zk_rv (zk_VT E) (fun ci => Nat.beq ci 10) (sp_X11_isDoor E)), (15, 2, 0, 0, zk_rv (zk_VT E) (fun ci => Nat.beq ci 10) (sp_X11_no E)), (20, 1, 0, 0, zk_rv (zk_VT E) (fun ci => Nat.beq ci 10) (sp_X11_solve E)), (25, 2, 0, 0, zk_rv (zk_VT E) (fun ci => Nat.beq ci 10) (sp_X11_loadNow E))]
theorem r_X11_load (E : zk_E) (P : zk_P zk_S) (PX : zk_X zk_S) (K : Nat → zk_L → List Value → zk_W zk_S → Prop) : (∀ (n : Nat) (l1 : Option Value) (y0 : Value) (r : List Value) (σ : zk_S) (sz k c : Nat), zk_run E (zk_VT E) M_X11_load (C_X11_load E) P PX K (n + 1) 0 [some y0, l1] r (σ, sz, k, c) = (zk_isr y0 ∧ zk_run E (zk_VT E) M_X11_load (C_X11_load E) P PX K n 1 [some y0, l1] (y0 :: r) (σ, sz, k, c))) ∧
  (∀ (n : Nat) (l0 l1 : Option Value)  (r : List Value) (σ : zk_S) (sz k c : Nat), zk_run E (zk_VT E) M_X11_load (C_X11_load E) P PX K (n + 1) 1 [l0, l1] r (σ, sz, k, c) = zk_run E (zk_VT E) M_X11_load (C_X11_load E) P PX K n 2 [l0, l1] (.int (0) :: r) (σ, sz, k, c)) ∧
  (∀ (n : Nat) (l0 l1 : Option Value) (a : Nat) (v : Value) (r : List Value) (σ : zk_S) (sz k c : Nat), zk_run E (zk_VT E) M_X11_load (C_X11_load E) P PX K (n + 1) 2 [l0, l1] (v :: .ref a :: r) (σ, sz, k, c) = zk_put (zk_view E σ a) [10] 0 0 v (zk_pfok E σ a 0 v ∧ zk_run E (zk_VT E) M_X11_load (C_X11_load E) P PX K n 5 [l0, l1] r (zk_pf E σ a 0 v, sz, k, c))) ∧
  (∀ (n : Nat) (l1 : Option Value) (y0 : Value) (r : List Value) (σ : zk_S) (sz k c : Nat), zk_run E (zk_VT E) M_X11_load (C_X11_load E) P PX K (n + 1) 5 [some y0, l1] r (σ, sz, k, c) = (zk_isr y0 ∧ zk_run E (zk_VT E) M_X11_load (C_X11_load E) P PX K n 6 [some y0, l1] (y0 :: r) (σ, sz, k, c))) ∧
  (∀ (n : Nat) (l0 : Option Value) (y1 : Int32) (r : List Value) (σ : zk_S) (sz k c : Nat), zk_run E (zk_VT E) M_X11_load (C_X11_load E) P PX K (n + 1) 6 [l0, some (.int y1)] r (σ, sz, k, c) = zk_run E (zk_VT E) M_X11_load (C_X11_load E) P PX K n 7 [l0, some (.int y1)] (.int y1 :: r) (σ, sz, k, c)) ∧
  (∀ (n : Nat) (l0 l1 : Option Value) (v0 : Value) (v1 : Value)  (σ : zk_S) (sz k c : Nat), zk_run E (zk_VT E) M_X11_load (C_X11_load E) P PX K (n + 1) 7 [l0, l1] [v0, v1] (σ, sz, k, c) = (k + 0 ≤ 0 ∧ c + 0 ≤ 0 ∧ (zk_rv (zk_VT E) (fun ci => Nat.beq ci 10) (sp_X11_isDoor E)) [v1, v0] σ sz (fun v s2 z2 => zk_run E (zk_VT E) M_X11_load (C_X11_load E) P PX K n 10 [l0, l1] (zk_psh v []) (s2, z2, k + 0, c + 0)) (fun X s2 z2 => PX X s2 z2))) ∧
  (∀ (n : Nat) (l0 l1 : Option Value) (x : Int32) (r : List Value) (σ : zk_S) (sz k c : Nat), zk_run E (zk_VT E) M_X11_load (C_X11_load E) P PX K (n + 1) 10 [l0, l1] (.int x :: r) (σ, sz, k, c) = ((¬ x = 0 → zk_run E (zk_VT E) M_X11_load (C_X11_load E) P PX K n 19 [l0, l1] r (σ, sz, k, c)) ∧ (¬ (¬ x = 0) → zk_run E (zk_VT E) M_X11_load (C_X11_load E) P PX K n 13 [l0, l1] r (σ, sz, k, c)))) ∧
  (∀ (n : Nat) (l1 : Option Value) (y0 : Value) (r : List Value) (σ : zk_S) (sz k c : Nat), zk_run E (zk_VT E) M_X11_load (C_X11_load E) P PX K (n + 1) 13 [some y0, l1] r (σ, sz, k, c) = (zk_isr y0 ∧ zk_run E (zk_VT E) M_X11_load (C_X11_load E) P PX K n 14 [some y0, l1] (y0 :: r) (σ, sz, k, c))) ∧
  (∀ (n : Nat) (l0 l1 : Option Value)  (r : List Value) (σ : zk_S) (sz k c : Nat), zk_run E (zk_VT E) M_X11_load (C_X11_load E) P PX K (n + 1) 14 [l0, l1] r (σ, sz, k, c) = zk_run E (zk_VT E) M_X11_load (C_X11_load E) P PX K n 15 [l0, l1] (.int (1) :: r) (σ, sz, k, c)) ∧
  (∀ (n : Nat) (l0 l1 : Option Value) (v0 : Value) (v1 : Value)  (σ : zk_S) (sz k c : Nat), zk_run E (zk_VT E) M_X11_load (C_X11_load E) P PX K (n + 1) 15 [l0, l1] [v0, v1] (σ, sz, k, c) = (k + 0 ≤ 0 ∧ c + 0 ≤ 0 ∧ (zk_rv (zk_VT E) (fun ci => Nat.beq ci 10) (sp_X11_no E)) [v1, v0] σ sz (fun v s2 z2 => zk_run E (zk_VT E) M_X11_load (C_X11_load E) P PX K n 18 [l0, l1] (zk_psh v []) (s2, z2, k + 0, c + 0)) (fun X s2 z2 => PX X s2 z2))) ∧
  (∀ (n : Nat) (l0 l1 : Option Value) (x : Int32)  (σ : zk_S) (sz k c : Nat), zk_run E (zk_VT E) M_X11_load (C_X11_load E) P PX K (n + 1) 18 [l0, l1] [.int x] (σ, sz, k, c) = (zk_nok (some (.int)) x ∧ P (some (.int x)) σ sz ∧ k ≤ 0 ∧ c ≤ 0)) ∧
  (∀ (n : Nat) (l1 : Option Value) (y0 : Value) (r : List Value) (σ : zk_S) (sz k c : Nat), zk_run E (zk_VT E) M_X11_load (C_X11_load E) P PX K (n + 1) 19 [some y0, l1] r (σ, sz, k, c) = (zk_isr y0 ∧ zk_run E (zk_VT E) M_X11_load (C_X11_load E) P PX K n 20 [some y0, l1] (y0 :: r) (σ, sz, k, c))) ∧
  (∀ (n : Nat) (l0 l1 : Option Value) (v0 : Value)  (σ : zk_S) (sz k c : Nat), zk_run E (zk_VT E) M_X11_load (C_X11_load E) P PX K (n + 1) 20 [l0, l1] [v0] (σ, sz, k, c) = (k + 0 ≤ 0 ∧ c + 0 ≤ 0 ∧ (zk_rv (zk_VT E) (fun ci => Nat.beq ci 10) (sp_X11_solve E)) [v0] σ sz (fun v s2 z2 => zk_run E (zk_VT E) M_X11_load (C_X11_load E) P PX K n 23 [l0, l1] (zk_psh v []) (s2, z2, k + 0, c + 0)) (fun X s2 z2 => PX X s2 z2))) ∧
  (∀ (n : Nat) (l1 : Option Value) (y0 : Value) (r : List Value) (σ : zk_S) (sz k c : Nat), zk_run E (zk_VT E) M_X11_load (C_X11_load E) P PX K (n + 1) 23 [some y0, l1] r (σ, sz, k, c) = (zk_isr y0 ∧ zk_run E (zk_VT E) M_X11_load (C_X11_load E) P PX K n 24 [some y0, l1] (y0 :: r) (σ, sz, k, c))) ∧
  (∀ (n : Nat) (l0 : Option Value) (y1 : Int32) (r : List Value) (σ : zk_S) (sz k c : Nat), zk_run E (zk_VT E) M_X11_load (C_X11_load E) P PX K (n + 1) 24 [l0, some (.int y1)] r (σ, sz, k, c) = zk_run E (zk_VT E) M_X11_load (C_X11_load E) P PX K n 25 [l0, some (.int y1)] (.int y1 :: r) (σ, sz, k, c)) ∧
  (∀ (n : Nat) (l0 l1 : Option Value) (v0 : Value) (v1 : Value)  (σ : zk_S) (sz k c : Nat), zk_run E (zk_VT E) M_X11_load (C_X11_load E) P PX K (n + 1) 25 [l0, l1] [v0, v1] (σ, sz, k, c) = (k + 0 ≤ 0 ∧ c + 0 ≤ 0 ∧ (zk_rv (zk_VT E) (fun ci => Nat.beq ci 10) (sp_X11_loadNow E)) [v1, v0] σ sz (fun v s2 z2 => zk_run E (zk_VT E) M_X11_load (C_X11_load E) P PX K n 28 [l0, l1] (zk_psh v []) (s2, z2, k + 0, c + 0)) (fun X s2 z2 => PX X s2 z2))) ∧
  (∀ (n : Nat) (l0 l1 : Option Value) (x : Int32)  (σ : zk_S) (sz k c : Nat), zk_run E (zk_VT E) M_X11_load (C_X11_load E) P PX K (n + 1) 28 [l0, l1] [.int x] (σ, sz, k, c) = (zk_nok (some (.int)) x ∧ P (some (.int x)) σ sz ∧ k ≤ 0 ∧ c ≤ 0)) ∧
  (∀ (n : Nat) (l0 l1 : Option Value) (r : List Value) (w : zk_W zk_S), zk_go E (zk_VT E) M_X11_load (C_X11_load E) P PX K n 0 [l0, l1] r w = zk_run E (zk_VT E) M_X11_load (C_X11_load E) P PX K (n + 1) 0 [l0, l1] r w) := ⟨by intros; rfl, by intros; rfl, by intros; rfl, by intros; rfl, by intros; rfl, by intros; rfl, by intros; rfl, by intros; rfl, by intros; rfl, by intros; rfl, by intros; rfl, by intros; rfl, by intros; rfl, by intros; rfl, by intros; rfl, by intros; rfl, by intros; rfl, by intros; rfl⟩
theorem vc_X11_load (E : zk_E) : zk_VC E (zk_VT E) M_X11_load (C_X11_load E) 2 (sp_X11_load E) := by
  intro av σ sz P PX h
  obtain ⟨J, N, Q, O, U⟩ := σ
  unfold sp_X11_load at h
  split at h
  case h_2 => exact h.elim
  rename_i a0 r
  obtain ⟨rfl, h⟩ := h
  refine ⟨Nat.le_of_ble_eq_true rfl, fun G hG => ?_⟩
  change G 0 [some (.ref (zk_ad E 22)), some (.int r)] [] ((J, N, Q, O, U), sz, 0, 0)
  try dsimp only at h
  obtain ⟨hmi, h⟩ := h
  have hms := hmi.1
  have hms0 := hms.thr 0
  rcases h with ⟨j, hj, rfl, h⟩ | ⟨hr, h⟩
  · have c1 := m_isDoor_t hms hj
    have hj40 := hj.lt hms
    (refine hG 900 _ _ _ _ ?_; simp only [r_X11_load, zk_kl_none, zk_kl_int, zk_kl_ref, zk_kl_null, zk_kl_long, zk_kl_rf, zk_isr_ref, zk_isr_null, zk_isr_rf9, zk_c1_int, zk_c1_ref, zk_c1_null, zk_c1_rf, zk_psh_some, zk_psh_none, zk_nok_int, zk_nok_bool0, zk_nok_bool1, zk_nok_b, zk_fok_0, zk_fok_1, zk_fok_2, zk_fok_n, zk_fok_rf, zb_f, zb_p, zb_i, zb_a, zb_s, zk_nth_0, zk_nth_s, zk_fld_o, zk_put_o, zk_rv_eq, zk_ri_eq, zk_is_o, List.mem_cons, List.not_mem_nil, or_false, false_or, or_true, true_or, and_true, true_and, not_false_iff, not_true_eq_false, true_implies, false_implies, imp_self, implies_true, forall_const, zk_lit, zk_uj_ap, zk_un_ap, zk_un_un, zk_uj_uj, Nat.reduceEqDiff, eq_self, zk_bq, Bool.true_or, Bool.false_or, Nat.le_refl, Nat.zero_add, Nat.add_zero, Nat.reduceAdd, Nat.reduceLeDiff, Nat.le_zero_eq, and_self, and_false, false_and, ite_true, ite_false, Nat.zero_le, List.length_cons, List.length_nil, Option.some.injEq, forall_eq', reduceCtorEq, spe_X11_isDoor, hms0, m_isDoor_thr, c1, zk_b0, Bool.true_eq_false, spe_X11_solve])
    refine ⟨hmi.thr 0, fun J2 N2 hso => ?_⟩
    have qe := (QE.thr J N 0).so hso
    have hsv := hso.sv
    simp only [r_X11_load, zk_kl_none, zk_kl_int, zk_kl_ref, zk_kl_null, zk_kl_long, zk_kl_rf, zk_isr_ref, zk_isr_null, zk_isr_rf9, zk_c1_int, zk_c1_ref, zk_c1_null, zk_c1_rf, zk_psh_some, zk_psh_none, zk_nok_int, zk_nok_bool0, zk_nok_bool1, zk_nok_b, zk_fok_0, zk_fok_1, zk_fok_2, zk_fok_n, zk_fok_rf, zb_f, zb_p, zb_i, zb_a, zb_s, zk_nth_0, zk_nth_s, zk_fld_o, zk_put_o, zk_rv_eq, zk_ri_eq, zk_is_o, List.mem_cons, List.not_mem_nil, or_false, false_or, or_true, true_or, and_true, true_and, not_false_iff, not_true_eq_false, true_implies, false_implies, imp_self, implies_true, forall_const, zk_lit, zk_uj_ap, zk_un_ap, zk_un_un, zk_uj_uj, Nat.reduceEqDiff, eq_self, zk_bq, Bool.true_or, Bool.false_or, Nat.le_refl, Nat.zero_add, Nat.add_zero, Nat.reduceAdd, Nat.reduceLeDiff, Nat.le_zero_eq, and_self, and_false, false_and, ite_true, ite_false, Nat.zero_le, List.length_cons, List.length_nil, Option.some.injEq, forall_eq', reduceCtorEq, spe_X11_loadNow]
    refine ⟨qe.es.mi hmi, hsv, ⟨j, by omega, rfl⟩, ?_⟩
    rw [n_cl (by omega), qe.es.a6]
    exact h J2 N2 qe
  · (refine hG 900 _ _ _ _ ?_; simp only [r_X11_load, zk_kl_none, zk_kl_int, zk_kl_ref, zk_kl_null, zk_kl_long, zk_kl_rf, zk_isr_ref, zk_isr_null, zk_isr_rf9, zk_c1_int, zk_c1_ref, zk_c1_null, zk_c1_rf, zk_psh_some, zk_psh_none, zk_nok_int, zk_nok_bool0, zk_nok_bool1, zk_nok_b, zk_fok_0, zk_fok_1, zk_fok_2, zk_fok_n, zk_fok_rf, zb_f, zb_p, zb_i, zb_a, zb_s, zk_nth_0, zk_nth_s, zk_fld_o, zk_put_o, zk_rv_eq, zk_ri_eq, zk_is_o, List.mem_cons, List.not_mem_nil, or_false, false_or, or_true, true_or, and_true, true_and, not_false_iff, not_true_eq_false, true_implies, false_implies, imp_self, implies_true, forall_const, zk_lit, zk_uj_ap, zk_un_ap, zk_un_un, zk_uj_uj, Nat.reduceEqDiff, eq_self, zk_bq, Bool.true_or, Bool.false_or, Nat.le_refl, Nat.zero_add, Nat.add_zero, Nat.reduceAdd, Nat.reduceLeDiff, Nat.le_zero_eq, and_self, and_false, false_and, ite_true, ite_false, Nat.zero_le, List.length_cons, List.length_nil, Option.some.injEq, forall_eq', reduceCtorEq, spe_X11_isDoor, hms0, m_isDoor_thr, hr, zk_b0, spe_X11_no])
    exact h _ _ (QE.thr J N 1)
theorem ct_X11_load {l : Launch} (hl : l.stackTraces = false) (E : zk_E) : zk_C l E (zk_VT E) yX11_load cX11_load 2 (some (.int)) rm_X11_load (sp_X11_load E) := by
  refine zk_meth (M := M_X11_load) (C := C_X11_load E) hl (by decide +kernel) rfl (fun _ _ => rfl) (zk_VT_ok E) MO_X11_load TO_X11_load THo_X11_load ?_ (vc_X11_load E)
  exact fun p e s m args below meth c X pc n mc ms sp2 h => by
    have h2 := zk_lka_mem h
    simp only [List.mem_cons, List.not_mem_nil, or_false, Prod.mk.injEq] at h2
    rcases h2 with ⟨rfl, rfl, rfl, rfl, rfl⟩ | ⟨rfl, rfl, rfl, rfl, rfl⟩ | ⟨rfl, rfl, rfl, rfl, rfl⟩ | ⟨rfl, rfl, rfl, rfl, rfl⟩
    · exact zk_coV (idx := 167) X (ct_X11_isDoor hl E) (List.forall_mem_cons.mpr ⟨zk_wi 1171 (by decide +kernel) rfl, List.forall_mem_cons.mpr ⟨zk_wi 1173 (by decide +kernel) rfl, List.forall_mem_cons.mpr ⟨zk_wp 18 (by decide +kernel) rfl, List.forall_mem_cons.mpr ⟨zk_wi 6 (by decide +kernel) rfl, List.forall_mem_cons.mpr ⟨zk_wi 1174 (by decide +kernel) rfl, fun _ h => absurd h List.not_mem_nil⟩⟩⟩⟩⟩) (fun ci h => by
      have h := Nat.eq_of_beq_eq_true h
      subst h
      exact ⟨_, _, rfl⟩) (by decide +kernel) ⟨by decide, by decide, by decide +kernel⟩ ⟨by decide, by decide⟩
    · exact zk_coV (idx := 130) X (ct_X11_no hl E) (List.forall_mem_cons.mpr ⟨zk_wi 1108 (by decide +kernel) rfl, List.forall_mem_cons.mpr ⟨zk_wi 1110 (by decide +kernel) rfl, List.forall_mem_cons.mpr ⟨zk_wp 11 (by decide +kernel) rfl, List.forall_mem_cons.mpr ⟨zk_wi 6 (by decide +kernel) rfl, List.forall_mem_cons.mpr ⟨zk_wi 1111 (by decide +kernel) rfl, fun _ h => absurd h List.not_mem_nil⟩⟩⟩⟩⟩) (fun ci h => by
      have h := Nat.eq_of_beq_eq_true h
      subst h
      exact ⟨_, _, rfl⟩) (by decide +kernel) ⟨by decide, by decide, by decide +kernel⟩ ⟨by decide, by decide⟩
    · exact zk_coV (idx := 227) X (ct_X11_solve hl E) (List.forall_mem_cons.mpr ⟨zk_wi 1227 (by decide +kernel) rfl, List.forall_mem_cons.mpr ⟨zk_wi 1229 (by decide +kernel) rfl, List.forall_mem_cons.mpr ⟨zk_wp 24 (by decide +kernel) rfl, List.forall_mem_cons.mpr ⟨zk_wi 6 (by decide +kernel) rfl, List.forall_mem_cons.mpr ⟨zk_wi 1230 (by decide +kernel) rfl, fun _ h => absurd h List.not_mem_nil⟩⟩⟩⟩⟩) (fun ci h => by
      have h := Nat.eq_of_beq_eq_true h
      subst h
      exact ⟨_, _, rfl⟩) (by decide +kernel) ⟨by decide, by decide, by decide +kernel⟩ ⟨by decide, by decide⟩
    · exact zk_coV (idx := 248) X (ct_X11_loadNow hl E) (List.forall_mem_cons.mpr ⟨zk_wi 1321 (by decide +kernel) rfl, List.forall_mem_cons.mpr ⟨zk_wi 1323 (by decide +kernel) rfl, List.forall_mem_cons.mpr ⟨zk_wp 41 (by decide +kernel) rfl, List.forall_mem_cons.mpr ⟨zk_wi 6 (by decide +kernel) rfl, List.forall_mem_cons.mpr ⟨zk_wi 1324 (by decide +kernel) rfl, fun _ h => absurd h List.not_mem_nil⟩⟩⟩⟩⟩) (fun ci h => by
      have h := Nat.eq_of_beq_eq_true h
      subst h
      exact ⟨_, _, rfl⟩) (by decide +kernel) ⟨by decide, by decide, by decide +kernel⟩ ⟨by decide, by decide⟩
def sp_X11_stairsLoad (E : zk_E) : zk_Sp zk_S := fun av σ sz P PX => match av with
  | [.ref a, .int r] => a = zk_ad E 22 ∧ MI σ.1 σ.2.1 ∧ TRD σ.1 σ.2.1 r (fun j => ∀ J2 N2, QE σ.1 J2 σ.2.1 N2 0 → P (some (.int (a_load σ.1 σ.2.1 (40 + j)))) (J2, N2, σ.2.2) sz) (∀ J2 N2, QE σ.1 J2 σ.2.1 N2 1 → P (some (.int 0)) (J2, N2, σ.2.2) sz)
  | _ => False
theorem spe_X11_stairsLoad (E : zk_E) (a : Nat) (r : Int32) (σ : zk_S) (sz : Nat) (P : zk_P zk_S) (PX : zk_X zk_S) : sp_X11_stairsLoad E [.ref a, .int r] σ sz P PX = (a = zk_ad E 22 ∧ MI σ.1 σ.2.1 ∧ TRD σ.1 σ.2.1 r (fun j => ∀ J2 N2, QE σ.1 J2 σ.2.1 N2 0 → P (some (.int (a_load σ.1 σ.2.1 (40 + j)))) (J2, N2, σ.2.2) sz) (∀ J2 N2, QE σ.1 J2 σ.2.1 N2 1 → P (some (.int 0)) (J2, N2, σ.2.2) sz)) := propext Iff.rfl
def C_X11_stairsLoad (E : zk_E) : zk_Cl zk_S := zk_lka [(7, 2, 0, 0, zk_rv (zk_VT E) (fun ci => Nat.beq ci 10) (sp_X11_isStairs E)), (15, 2, 0, 0, zk_rv (zk_VT E) (fun ci => Nat.beq ci 10) (sp_X11_no E)), (20, 1, 0, 0, zk_rv (zk_VT E) (fun ci => Nat.beq ci 10) (sp_X11_solve E)), (28, 2, 0, 0, zk_rv (zk_VT E) (fun ci => Nat.beq ci 10) (sp_X11_loadNow E))]
theorem r_X11_stairsLoad (E : zk_E) (P : zk_P zk_S) (PX : zk_X zk_S) (K : Nat → zk_L → List Value → zk_W zk_S → Prop) : (∀ (n : Nat) (l1 : Option Value) (y0 : Value) (r : List Value) (σ : zk_S) (sz k c : Nat), zk_run E (zk_VT E) M_X11_stairsLoad (C_X11_stairsLoad E) P PX K (n + 1) 0 [some y0, l1] r (σ, sz, k, c) = (zk_isr y0 ∧ zk_run E (zk_VT E) M_X11_stairsLoad (C_X11_stairsLoad E) P PX K n 1 [some y0, l1] (y0 :: r) (σ, sz, k, c))) ∧
  (∀ (n : Nat) (l0 l1 : Option Value)  (r : List Value) (σ : zk_S) (sz k c : Nat), zk_run E (zk_VT E) M_X11_stairsLoad (C_X11_stairsLoad E) P PX K (n + 1) 1 [l0, l1] r (σ, sz, k, c) = zk_run E (zk_VT E) M_X11_stairsLoad (C_X11_stairsLoad E) P PX K n 2 [l0, l1] (.int (0) :: r) (σ, sz, k, c)) ∧
  (∀ (n : Nat) (l0 l1 : Option Value) (a : Nat) (v : Value) (r : List Value) (σ : zk_S) (sz k c : Nat), zk_run E (zk_VT E) M_X11_stairsLoad (C_X11_stairsLoad E) P PX K (n + 1) 2 [l0, l1] (v :: .ref a :: r) (σ, sz, k, c) = zk_put (zk_view E σ a) [10] 0 0 v (zk_pfok E σ a 0 v ∧ zk_run E (zk_VT E) M_X11_stairsLoad (C_X11_stairsLoad E) P PX K n 5 [l0, l1] r (zk_pf E σ a 0 v, sz, k, c))) ∧
  (∀ (n : Nat) (l1 : Option Value) (y0 : Value) (r : List Value) (σ : zk_S) (sz k c : Nat), zk_run E (zk_VT E) M_X11_stairsLoad (C_X11_stairsLoad E) P PX K (n + 1) 5 [some y0, l1] r (σ, sz, k, c) = (zk_isr y0 ∧ zk_run E (zk_VT E) M_X11_stairsLoad (C_X11_stairsLoad E) P PX K n 6 [some y0, l1] (y0 :: r) (σ, sz, k, c))) ∧
  (∀ (n : Nat) (l0 : Option Value) (y1 : Int32) (r : List Value) (σ : zk_S) (sz k c : Nat), zk_run E (zk_VT E) M_X11_stairsLoad (C_X11_stairsLoad E) P PX K (n + 1) 6 [l0, some (.int y1)] r (σ, sz, k, c) = zk_run E (zk_VT E) M_X11_stairsLoad (C_X11_stairsLoad E) P PX K n 7 [l0, some (.int y1)] (.int y1 :: r) (σ, sz, k, c)) ∧
  (∀ (n : Nat) (l0 l1 : Option Value) (v0 : Value) (v1 : Value)  (σ : zk_S) (sz k c : Nat), zk_run E (zk_VT E) M_X11_stairsLoad (C_X11_stairsLoad E) P PX K (n + 1) 7 [l0, l1] [v0, v1] (σ, sz, k, c) = (k + 0 ≤ 0 ∧ c + 0 ≤ 0 ∧ (zk_rv (zk_VT E) (fun ci => Nat.beq ci 10) (sp_X11_isStairs E)) [v1, v0] σ sz (fun v s2 z2 => zk_run E (zk_VT E) M_X11_stairsLoad (C_X11_stairsLoad E) P PX K n 10 [l0, l1] (zk_psh v []) (s2, z2, k + 0, c + 0)) (fun X s2 z2 => PX X s2 z2))) ∧
  (∀ (n : Nat) (l0 l1 : Option Value) (x : Int32) (r : List Value) (σ : zk_S) (sz k c : Nat), zk_run E (zk_VT E) M_X11_stairsLoad (C_X11_stairsLoad E) P PX K (n + 1) 10 [l0, l1] (.int x :: r) (σ, sz, k, c) = ((¬ x = 0 → zk_run E (zk_VT E) M_X11_stairsLoad (C_X11_stairsLoad E) P PX K n 19 [l0, l1] r (σ, sz, k, c)) ∧ (¬ (¬ x = 0) → zk_run E (zk_VT E) M_X11_stairsLoad (C_X11_stairsLoad E) P PX K n 13 [l0, l1] r (σ, sz, k, c)))) ∧
  (∀ (n : Nat) (l1 : Option Value) (y0 : Value) (r : List Value) (σ : zk_S) (sz k c : Nat), zk_run E (zk_VT E) M_X11_stairsLoad (C_X11_stairsLoad E) P PX K (n + 1) 13 [some y0, l1] r (σ, sz, k, c) = (zk_isr y0 ∧ zk_run E (zk_VT E) M_X11_stairsLoad (C_X11_stairsLoad E) P PX K n 14 [some y0, l1] (y0 :: r) (σ, sz, k, c))) ∧
  (∀ (n : Nat) (l0 l1 : Option Value)  (r : List Value) (σ : zk_S) (sz k c : Nat), zk_run E (zk_VT E) M_X11_stairsLoad (C_X11_stairsLoad E) P PX K (n + 1) 14 [l0, l1] r (σ, sz, k, c) = zk_run E (zk_VT E) M_X11_stairsLoad (C_X11_stairsLoad E) P PX K n 15 [l0, l1] (.int (1) :: r) (σ, sz, k, c)) ∧
  (∀ (n : Nat) (l0 l1 : Option Value) (v0 : Value) (v1 : Value)  (σ : zk_S) (sz k c : Nat), zk_run E (zk_VT E) M_X11_stairsLoad (C_X11_stairsLoad E) P PX K (n + 1) 15 [l0, l1] [v0, v1] (σ, sz, k, c) = (k + 0 ≤ 0 ∧ c + 0 ≤ 0 ∧ (zk_rv (zk_VT E) (fun ci => Nat.beq ci 10) (sp_X11_no E)) [v1, v0] σ sz (fun v s2 z2 => zk_run E (zk_VT E) M_X11_stairsLoad (C_X11_stairsLoad E) P PX K n 18 [l0, l1] (zk_psh v []) (s2, z2, k + 0, c + 0)) (fun X s2 z2 => PX X s2 z2))) ∧
  (∀ (n : Nat) (l0 l1 : Option Value) (x : Int32)  (σ : zk_S) (sz k c : Nat), zk_run E (zk_VT E) M_X11_stairsLoad (C_X11_stairsLoad E) P PX K (n + 1) 18 [l0, l1] [.int x] (σ, sz, k, c) = (zk_nok (some (.int)) x ∧ P (some (.int x)) σ sz ∧ k ≤ 0 ∧ c ≤ 0)) ∧
  (∀ (n : Nat) (l1 : Option Value) (y0 : Value) (r : List Value) (σ : zk_S) (sz k c : Nat), zk_run E (zk_VT E) M_X11_stairsLoad (C_X11_stairsLoad E) P PX K (n + 1) 19 [some y0, l1] r (σ, sz, k, c) = (zk_isr y0 ∧ zk_run E (zk_VT E) M_X11_stairsLoad (C_X11_stairsLoad E) P PX K n 20 [some y0, l1] (y0 :: r) (σ, sz, k, c))) ∧
  (∀ (n : Nat) (l0 l1 : Option Value) (v0 : Value)  (σ : zk_S) (sz k c : Nat), zk_run E (zk_VT E) M_X11_stairsLoad (C_X11_stairsLoad E) P PX K (n + 1) 20 [l0, l1] [v0] (σ, sz, k, c) = (k + 0 ≤ 0 ∧ c + 0 ≤ 0 ∧ (zk_rv (zk_VT E) (fun ci => Nat.beq ci 10) (sp_X11_solve E)) [v0] σ sz (fun v s2 z2 => zk_run E (zk_VT E) M_X11_stairsLoad (C_X11_stairsLoad E) P PX K n 23 [l0, l1] (zk_psh v []) (s2, z2, k + 0, c + 0)) (fun X s2 z2 => PX X s2 z2))) ∧
  (∀ (n : Nat) (l1 : Option Value) (y0 : Value) (r : List Value) (σ : zk_S) (sz k c : Nat), zk_run E (zk_VT E) M_X11_stairsLoad (C_X11_stairsLoad E) P PX K (n + 1) 23 [some y0, l1] r (σ, sz, k, c) = (zk_isr y0 ∧ zk_run E (zk_VT E) M_X11_stairsLoad (C_X11_stairsLoad E) P PX K n 24 [some y0, l1] (y0 :: r) (σ, sz, k, c))) ∧
  (∀ (n : Nat) (l0 l1 : Option Value)  (r : List Value) (σ : zk_S) (sz k c : Nat), zk_run E (zk_VT E) M_X11_stairsLoad (C_X11_stairsLoad E) P PX K (n + 1) 24 [l0, l1] r (σ, sz, k, c) = zk_run E (zk_VT E) M_X11_stairsLoad (C_X11_stairsLoad E) P PX K n 26 [l0, l1] (.int (40) :: r) (σ, sz, k, c)) ∧
  (∀ (n : Nat) (l0 : Option Value) (y1 : Int32) (r : List Value) (σ : zk_S) (sz k c : Nat), zk_run E (zk_VT E) M_X11_stairsLoad (C_X11_stairsLoad E) P PX K (n + 1) 26 [l0, some (.int y1)] r (σ, sz, k, c) = zk_run E (zk_VT E) M_X11_stairsLoad (C_X11_stairsLoad E) P PX K n 27 [l0, some (.int y1)] (.int y1 :: r) (σ, sz, k, c)) ∧
  (∀ (n : Nat) (l0 l1 : Option Value) (x y : Int32) (r : List Value) (σ : zk_S) (sz k c : Nat), zk_run E (zk_VT E) M_X11_stairsLoad (C_X11_stairsLoad E) P PX K (n + 1) 27 [l0, l1] (.int y :: .int x :: r) (σ, sz, k, c) = zk_run E (zk_VT E) M_X11_stairsLoad (C_X11_stairsLoad E) P PX K n 28 [l0, l1] (.int (x + y) :: r) (σ, sz, k, c)) ∧
  (∀ (n : Nat) (l0 l1 : Option Value) (v0 : Value) (v1 : Value)  (σ : zk_S) (sz k c : Nat), zk_run E (zk_VT E) M_X11_stairsLoad (C_X11_stairsLoad E) P PX K (n + 1) 28 [l0, l1] [v0, v1] (σ, sz, k, c) = (k + 0 ≤ 0 ∧ c + 0 ≤ 0 ∧ (zk_rv (zk_VT E) (fun ci => Nat.beq ci 10) (sp_X11_loadNow E)) [v1, v0] σ sz (fun v s2 z2 => zk_run E (zk_VT E) M_X11_stairsLoad (C_X11_stairsLoad E) P PX K n 31 [l0, l1] (zk_psh v []) (s2, z2, k + 0, c + 0)) (fun X s2 z2 => PX X s2 z2))) ∧
  (∀ (n : Nat) (l0 l1 : Option Value) (x : Int32)  (σ : zk_S) (sz k c : Nat), zk_run E (zk_VT E) M_X11_stairsLoad (C_X11_stairsLoad E) P PX K (n + 1) 31 [l0, l1] [.int x] (σ, sz, k, c) = (zk_nok (some (.int)) x ∧ P (some (.int x)) σ sz ∧ k ≤ 0 ∧ c ≤ 0)) ∧
  (∀ (n : Nat) (l0 l1 : Option Value) (r : List Value) (w : zk_W zk_S), zk_go E (zk_VT E) M_X11_stairsLoad (C_X11_stairsLoad E) P PX K n 0 [l0, l1] r w = zk_run E (zk_VT E) M_X11_stairsLoad (C_X11_stairsLoad E) P PX K (n + 1) 0 [l0, l1] r w) := ⟨by intros; rfl, by intros; rfl, by intros; rfl, by intros; rfl, by intros; rfl, by intros; rfl, by intros; rfl, by intros; rfl, by intros; rfl, by intros; rfl, by intros; rfl, by intros; rfl, by intros; rfl, by intros; rfl, by intros; rfl, by intros; rfl, by intros; rfl, by intros; rfl, by intros; rfl, by intros; rfl⟩
theorem vc_X11_stairsLoad (E : zk_E) : zk_VC E (zk_VT E) M_X11_stairsLoad (C_X11_stairsLoad E) 2 (sp_X11_stairsLoad E) := by
  intro av σ sz P PX h
  obtain ⟨J, N, Q, O, U⟩ := σ
  unfold sp_X11_stairsLoad at h
  split at h
  case h_2 => exact h.elim
  rename_i a0 r
  obtain ⟨rfl, h⟩ := h
  refine ⟨Nat.le_of_ble_eq_true rfl, fun G hG => ?_⟩
  change G 0 [some (.ref (zk_ad E 22)), some (.int r)] [] ((J, N, Q, O, U), sz, 0, 0)
  try dsimp only at h
  obtain ⟨hmi, h⟩ := h
  have hms := hmi.1
  have hms0 := hms.thr 0
  rcases h with ⟨j, hj, rfl, h⟩ | ⟨hr, h⟩
  · have c1 := m_isStairs_t hms hj
    have hj10 := hj.lt hms
    have e1 : (40 : Int32) + nI j = nI (40 + j) := n_add 40 j
    (refine hG 900 _ _ _ _ ?_; simp only [r_X11_stairsLoad, zk_kl_none, zk_kl_int, zk_kl_ref, zk_kl_null, zk_kl_long, zk_kl_rf, zk_isr_ref, zk_isr_null, zk_isr_rf9, zk_c1_int, zk_c1_ref, zk_c1_null, zk_c1_rf, zk_psh_some, zk_psh_none, zk_nok_int, zk_nok_bool0, zk_nok_bool1, zk_nok_b, zk_fok_0, zk_fok_1, zk_fok_2, zk_fok_n, zk_fok_rf, zb_f, zb_p, zb_i, zb_a, zb_s, zk_nth_0, zk_nth_s, zk_fld_o, zk_put_o, zk_rv_eq, zk_ri_eq, zk_is_o, List.mem_cons, List.not_mem_nil, or_false, false_or, or_true, true_or, and_true, true_and, not_false_iff, not_true_eq_false, true_implies, false_implies, imp_self, implies_true, forall_const, zk_lit, zk_uj_ap, zk_un_ap, zk_un_un, zk_uj_uj, Nat.reduceEqDiff, eq_self, zk_bq, Bool.true_or, Bool.false_or, Nat.le_refl, Nat.zero_add, Nat.add_zero, Nat.reduceAdd, Nat.reduceLeDiff, Nat.le_zero_eq, and_self, and_false, false_and, ite_true, ite_false, Nat.zero_le, List.length_cons, List.length_nil, Option.some.injEq, forall_eq', reduceCtorEq, spe_X11_isStairs, hms0, m_isStairs_thr, c1, zk_b0, Bool.true_eq_false, spe_X11_solve])
    refine ⟨hmi.thr 0, fun J2 N2 hso => ?_⟩
    have qe := (QE.thr J N 0).so hso
    have hsv := hso.sv
    simp only [r_X11_stairsLoad, zk_kl_none, zk_kl_int, zk_kl_ref, zk_kl_null, zk_kl_long, zk_kl_rf, zk_isr_ref, zk_isr_null, zk_isr_rf9, zk_c1_int, zk_c1_ref, zk_c1_null, zk_c1_rf, zk_psh_some, zk_psh_none, zk_nok_int, zk_nok_bool0, zk_nok_bool1, zk_nok_b, zk_fok_0, zk_fok_1, zk_fok_2, zk_fok_n, zk_fok_rf, zb_f, zb_p, zb_i, zb_a, zb_s, zk_nth_0, zk_nth_s, zk_fld_o, zk_put_o, zk_rv_eq, zk_ri_eq, zk_is_o, List.mem_cons, List.not_mem_nil, or_false, false_or, or_true, true_or, and_true, true_and, not_false_iff, not_true_eq_false, true_implies, false_implies, imp_self, implies_true, forall_const, zk_lit, zk_uj_ap, zk_un_ap, zk_un_un, zk_uj_uj, Nat.reduceEqDiff, eq_self, zk_bq, Bool.true_or, Bool.false_or, Nat.le_refl, Nat.zero_add, Nat.add_zero, Nat.reduceAdd, Nat.reduceLeDiff, Nat.le_zero_eq, and_self, and_false, false_and, ite_true, ite_false, Nat.zero_le, List.length_cons, List.length_nil, Option.some.injEq, forall_eq', reduceCtorEq, spe_X11_loadNow, e1]
    refine ⟨qe.es.mi hmi, hsv, ⟨40 + j, by omega, rfl⟩, ?_⟩
    rw [n_cl (by omega), qe.es.a6]
    exact h J2 N2 qe
  · (refine hG 900 _ _ _ _ ?_; simp only [r_X11_stairsLoad, zk_kl_none, zk_kl_int, zk_kl_ref, zk_kl_null, zk_kl_long, zk_kl_rf, zk_isr_ref, zk_isr_null, zk_isr_rf9, zk_c1_int, zk_c1_ref, zk_c1_null, zk_c1_rf, zk_psh_some, zk_psh_none, zk_nok_int, zk_nok_bool0, zk_nok_bool1, zk_nok_b, zk_fok_0, zk_fok_1, zk_fok_2, zk_fok_n, zk_fok_rf, zb_f, zb_p, zb_i, zb_a, zb_s, zk_nth_0, zk_nth_s, zk_fld_o, zk_put_o, zk_rv_eq, zk_ri_eq, zk_is_o, List.mem_cons, List.not_mem_nil, or_false, false_or, or_true, true_or, and_true, true_and, not_false_iff, not_true_eq_false, true_implies, false_implies, imp_self, implies_true, forall_const, zk_lit, zk_uj_ap, zk_un_ap, zk_un_un, zk_uj_uj, Nat.reduceEqDiff, eq_self, zk_bq, Bool.true_or, Bool.false_or, Nat.le_refl, Nat.zero_add, Nat.add_zero, Nat.reduceAdd, Nat.reduceLeDiff, Nat.le_zero_eq, and_self, and_false, false_and, ite_true, ite_false, Nat.zero_le, List.length_cons, List.length_nil, Option.some.injEq, forall_eq', reduceCtorEq, spe_X11_isStairs, hms0, m_isStairs_thr, hr, zk_b0, spe_X11_no])
    exact h _ _ (QE.thr J N 1)
theorem ct_X11_stairsLoad {l : Launch} (hl : l.stackTraces = false) (E : zk_E) : zk_C l E (zk_VT E) yX11_stairsLoad cX11_stairsLoad 2 (some (.int)) rm_X11_stairsLoad (sp_X11_stairsLoad E) := by
  refine zk_meth (M := M_X11_stairsLoad) (C := C_X11_stairsLoad E) hl (by decide +kernel) rfl (fun _ _ => rfl) (zk_VT_ok E) MO_X11_stairsLoad TO_X11_stairsLoad THo_X11_stairsLoad ?_ (vc_X11_stairsLoad E)
  exact fun p e s m args below meth c X pc n mc ms sp2 h => by
    have h2 := zk_lka_mem h
    simp only [List.mem_cons, List.not_mem_nil, or_false, Prod.mk.injEq] at h2
    rcases h2 with ⟨rfl, rfl, rfl, rfl, rfl⟩ | ⟨rfl, rfl, rfl, rfl, rfl⟩ | ⟨rfl, rfl, rfl, rfl, rfl⟩ | ⟨rfl, rfl, rfl, rfl, rfl⟩
    · exact zk_coV (idx := 251) X (ct_X11_isStairs hl E) (List.forall_mem_cons.mpr ⟨zk_wi 1329 (by decide +kernel) rfl, List.forall_mem_cons.mpr ⟨zk_wi 1331 (by decide +kernel) rfl, List.forall_mem_cons.mpr ⟨zk_wp 42 (by decide +kernel) rfl, List.forall_mem_cons.mpr ⟨zk_wi 6 (by decide +kernel) rfl, List.forall_mem_cons.mpr ⟨zk_wi 1332 (by decide +kernel) rfl, fun _ h => absurd h List.not_mem_nil⟩⟩⟩⟩⟩) (fun ci h => by
      have h := Nat.eq_of_beq_eq_true h
      subst h
      exact ⟨_, _, rfl⟩) (by decide +kernel) ⟨by decide, by decide, by decide +kernel⟩ ⟨by decide, by decide⟩
    · exact zk_coV (idx := 130) X (ct_X11_no hl E) (List.forall_mem_cons.mpr ⟨zk_wi 1108 (by decide +kernel) rfl, List.forall_mem_cons.mpr ⟨zk_wi 1110 (by decide +kernel) rfl, List.forall_mem_cons.mpr ⟨zk_wp 11 (by decide +kernel) rfl, List.forall_mem_cons.mpr ⟨zk_wi 6 (by decide +kernel) rfl, List.forall_mem_cons.mpr ⟨zk_wi 1111 (by decide +kernel) rfl, fun _ h => absurd h List.not_mem_nil⟩⟩⟩⟩⟩) (fun ci h => by
      have h := Nat.eq_of_beq_eq_true h
      subst h
      exact ⟨_, _, rfl⟩) (by decide +kernel) ⟨by decide, by decide, by decide +kernel⟩ ⟨by decide, by decide⟩
    · exact zk_coV (idx := 227) X (ct_X11_solve hl E) (List.forall_mem_cons.mpr ⟨zk_wi 1227 (by decide +kernel) rfl, List.forall_mem_cons.mpr ⟨zk_wi 1229 (by decide +kernel) rfl, List.forall_mem_cons.mpr ⟨zk_wp 24 (by decide +kernel) rfl, List.forall_mem_cons.mpr ⟨zk_wi 6 (by decide +kernel) rfl, List.forall_mem_cons.mpr ⟨zk_wi 1230 (by decide +kernel) rfl, fun _ h => absurd h List.not_mem_nil⟩⟩⟩⟩⟩) (fun ci h => by
      have h := Nat.eq_of_beq_eq_true h
      subst h
      exact ⟨_, _, rfl⟩) (by decide +kernel) ⟨by decide, by decide, by decide +kernel⟩ ⟨by decide, by decide⟩
    · exact zk_coV (idx := 248) X (ct_X11_loadNow hl E) (List.forall_mem_cons.mpr ⟨zk_wi 1321 (by decide +kernel) rfl, List.forall_mem_cons.mpr ⟨zk_wi 1323 (by decide +kernel) rfl, List.forall_mem_cons.mpr ⟨zk_wp 41 (by decide +kernel) rfl, List.forall_mem_cons.mpr ⟨zk_wi 6 (by decide +kernel) rfl, List.forall_mem_cons.mpr ⟨zk_wi 1324 (by decide +kernel) rfl, fun _ h => absurd h List.not_mem_nil⟩⟩⟩⟩⟩) (fun ci h => by
      have h := Nat.eq_of_beq_eq_true h
      subst h
      exact ⟨_, _, rfl⟩) (by decide +kernel) ⟨by decide, by decide, by decide +kernel⟩ ⟨by decide, by decide⟩

