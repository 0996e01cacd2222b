/-! the reference: meanWay, what would be -/
theorem n_ddiv (a b : Int32) (h : ¬ b = 0) : vf_n64 (FP.ddiv (FP.i2d a) (FP.i2d b)) := by
  have h1 : FP.Core.dIsNaN (FP.Core.ddiv (FP.Core.i2d a) (FP.Core.i2d b)) = false := FP.Core.ddiv_out (FP.Core.i2d_fin a).notNaN (FP.Core.i2d_fin b) (fun z => FP.Core.i2d_ne_zero h ((FP.Core.zero_bits2 _).mp z))
  have h2 : ¬ 9218868437227405312 < (FP.ddiv (FP.i2d a) (FP.i2d b)).toNat % 2 ^ 63 := by
    intro q
    have := (FP.Core.isNaN_bits (FP.Core.ddiv (FP.Core.i2d a) (FP.Core.i2d b))).mpr q
    rw [h1] at this
    cases this
  unfold vf_n64
  rw [UInt64.le_iff_toNat_le, UInt64.toNat_and]
  have e : (0x7fffffffffffffff : UInt64).toNat = 2 ^ 63 - 1 := rfl
  rw [e, Nat.and_two_pow_sub_one_eq_mod]
  exact Nat.not_lt.mp h2
def g_mo (J N : Nat → Nat → Int32) (r : Nat) : Bool := decide (N 23 r = -2) || decide (lea J N r = 100)
def g_ms (J N : Nat → Nat → Int32) (r : Nat) : Int32 := if g_mo J N r = true then 0 else N 29 r * nI (BB J N r).1
def g_mp (J N : Nat → Nat → Int32) (r : Nat) : Int32 := if g_mo J N r = true then 0 else N 29 r
def a_mean (J N : Nat → Nat → Int32) : UInt64 := if m_sum (g_mp J N) (m_nr J) = 0 then 0 else FP.ddiv (FP.i2d (m_sum (g_ms J N) (m_nr J))) (FP.i2d (m_sum (g_mp J N) (m_nr J)))
theorem ES.gmo {J J2 N N2 : Nat → Nat → Int32} (h : ES J J2 N N2) : g_mo J2 N2 = g_mo J N := by funext r; unfold g_mo; rw [h.lea, h.n (o := 23) (by decide)]
theorem ES.mean {J J2 N N2 : Nat → Nat → Int32} (h : ES J J2 N N2) : a_mean J2 N2 = a_mean J N := by
  have e1 : g_ms J2 N2 = g_ms J N := by funext r; unfold g_ms; rw [h.gmo, h.bb, h.n (o := 29) (by decide)]
  have e2 : g_mp J2 N2 = g_mp J N := by funext r; unfold g_mp; rw [h.gmo, h.n (o := 29) (by decide)]
  unfold a_mean
  rw [e1, e2, h.nr]
def sp_X11_meanWay (E : zk_E) : zk_Sp zk_S := fun av σ sz P PX => match av with
  | [.ref a] => a = zk_ad E 22 ∧ MI σ.1 σ.2.1 ∧ ZQ σ sz 0 (some (.double (a_mean σ.1 σ.2.1))) P
  | _ => False
theorem spe_X11_meanWay (E : zk_E) (a : Nat) (σ : zk_S) (sz : Nat) (P : zk_P zk_S) (PX : zk_X zk_S) : sp_X11_meanWay E [.ref a] σ sz P PX = (a = zk_ad E 22 ∧ MI σ.1 σ.2.1 ∧ ZQ σ sz 0 (some (.double (a_mean σ.1 σ.2.1))) P) := propext Iff.rfl
def C_X11_meanWay (E : zk_E) : zk_Cl zk_S := zk_lka [(6, 1, 0, 0, zk_rv (zk_VT E) (fun ci => Nat.beq ci 10) (sp_X11_solve E)), (36, 2, 0, 0, zk_rv (zk_VT E) (fun ci => Nat.beq ci 10) (sp_X11_isLostNow E))]
theorem r_X11_meanWay (E : zk_E) (P : zk_P zk_S) (PX : zk_X zk_S) (K : Nat → zk_L → List Value → zk_W zk_S → Prop) : (∀ (n : Nat) (l1 l2 l3 : Option Value) (y0 : Value) (r : List Value) (σ : zk_S) (sz k c : Nat), zk_run E (zk_VT E) M_X11_meanWay (C_X11_meanWay E) P PX K (n + 1) 0 [some y0, l1, l2, l3] r (σ, sz, k, c) = (zk_isr y0 ∧ zk_run E (zk_VT E) M_X11_meanWay (C_X11_meanWay E) P PX K n 1 [some y0, l1, l2, l3] (y0 :: r) (σ, sz, k, c))) ∧
  (∀ (n : Nat) (l0 l1 l2 l3 : Option Value)  (r : List Value) (σ : zk_S) (sz k c : Nat), zk_run E (zk_VT E) M_X11_meanWay (C_X11_meanWay E) P PX K (n + 1) 1 [l0, l1, l2, l3] r (σ, sz, k, c) = zk_run E (zk_VT E) M_X11_meanWay (C_X11_meanWay E) P PX K n 2 [l0, l1, l2, l3] (.int (0) :: r) (σ, sz, k, c)) ∧
  (∀ (n : Nat) (l0 l1 l2 l3 : Option Value) (a : Nat) (v : Value) (r : List Value) (σ : zk_S) (sz k c : Nat), zk_run E (zk_VT E) M_X11_meanWay (C_X11_meanWay E) P PX K (n + 1) 2 [l0, l1, l2, l3] (v :: .ref a :: r) (σ, sz, k, c) = zk_put (zk_view E σ a) [10] 0 0 v (zk_pfok E σ a 0 v ∧ zk_run E (zk_VT E) M_X11_meanWay (C_X11_meanWay E) P PX K n 5 [l0, l1, l2, l3] r (zk_pf E σ a 0 v, sz, k, c))) ∧
  (∀ (n : Nat) (l1 l2 l3 : Option Value) (y0 : Value) (r : List Value) (σ : zk_S) (sz k c : Nat), zk_run E (zk_VT E) M_X11_meanWay (C_X11_meanWay E) P PX K (n + 1) 5 [some y0, l1, l2, l3] r (σ, sz, k, c) = (zk_isr y0 ∧ zk_run E (zk_VT E) M_X11_meanWay (C_X11_meanWay E) P PX K n 6 [some y0, l1, l2, l3] (y0 :: r) (σ, sz, k, c))) ∧
  (∀ (n : Nat) (l0 l1 l2 l3 : Option Value) (v0 : Value)  (σ : zk_S) (sz k c : Nat), zk_run E (zk_VT E) M_X11_meanWay (C_X11_meanWay E) P PX K (n + 1) 6 [l0, l1, l2, l3] [v0] (σ, sz, k, c) = (k + 0 ≤ 0 ∧ c + 0 ≤ 0 ∧ (zk_rv (zk_VT E) (fun ci => Nat.beq ci 10) (sp_X11_solve E)) [v0] σ sz (fun v s2 z2 => zk_run E (zk_VT E) M_X11_meanWay (C_X11_meanWay E) P PX K n 9 [l0, l1, l2, l3] (zk_psh v []) (s2, z2, k + 0, c + 0)) (fun X s2 z2 => PX X s2 z2))) ∧
  (∀ (n : Nat) (l0 l1 l2 l3 : Option Value)  (r : List Value) (σ : zk_S) (sz k c : Nat), zk_run E (zk_VT E) M_X11_meanWay (C_X11_meanWay E) P PX K (n + 1) 9 [l0, l1, l2, l3] r (σ, sz, k, c) = zk_run E (zk_VT E) M_X11_meanWay (C_X11_meanWay E) P PX K n 10 [l0, l1, l2, l3] (.int (0) :: r) (σ, sz, k, c)) ∧
  (∀ (n : Nat) (l0 l1 l2 l3 : Option Value) (x : Int32) (r : List Value) (σ : zk_S) (sz k c : Nat), zk_run E (zk_VT E) M_X11_meanWay (C_X11_meanWay E) P PX K (n + 1) 10 [l0, l1, l2, l3] (.int x :: r) (σ, sz, k, c) = zk_run E (zk_VT E) M_X11_meanWay (C_X11_meanWay E) P PX K n 11 [zk_kl l0, some (.int x), l2, l3] r (σ, sz, k, c)) ∧
  (∀ (n : Nat) (l0 l1 l2 l3 : Option Value)  (r : List Value) (σ : zk_S) (sz k c : Nat), zk_run E (zk_VT E) M_X11_meanWay (C_X11_meanWay E) P PX K (n + 1) 11 [l0, l1, l2, l3] r (σ, sz, k, c) = zk_run E (zk_VT E) M_X11_meanWay (C_X11_meanWay E) P PX K n 12 [l0, l1, l2, l3] (.int (0) :: r) (σ, sz, k, c)) ∧
  (∀ (n : Nat) (l0 l1 l2 l3 : Option Value) (x : Int32) (r : List Value) (σ : zk_S) (sz k c : Nat), zk_run E (zk_VT E) M_X11_meanWay (C_X11_meanWay E) P PX K (n + 1) 12 [l0, l1, l2, l3] (.int x :: r) (σ, sz, k, c) = zk_run E (zk_VT E) M_X11_meanWay (C_X11_meanWay E) P PX K n 13 [l0, zk_kl l1, some (.int x), l3] r (σ, sz, k, c)) ∧
  (∀ (n : Nat) (l0 l1 l2 l3 : Option Value)  (r : List Value) (σ : zk_S) (sz k c : Nat), zk_run E (zk_VT E) M_X11_meanWay (C_X11_meanWay E) P PX K (n + 1) 13 [l0, l1, l2, l3] r (σ, sz, k, c) = zk_run E (zk_VT E) M_X11_meanWay (C_X11_meanWay E) P PX K n 14 [l0, l1, l2, l3] (.int (0) :: r) (σ, sz, k, c)) ∧
  (∀ (n : Nat) (l0 l1 l2 l3 : Option Value) (x : Int32) (r : List Value) (σ : zk_S) (sz k c : Nat), zk_run E (zk_VT E) M_X11_meanWay (C_X11_meanWay E) P PX K (n + 1) 14 [l0, l1, l2, l3] (.int x :: r) (σ, sz, k, c) = zk_run E (zk_VT E) M_X11_meanWay (C_X11_meanWay E) P PX K n 15 [l0, l1, zk_kl l2, some (.int x)] r (σ, sz, k, c)) ∧
  (∀ (n : Nat) (l0 l1 l2 l3 : Option Value)  (r : List Value) (σ : zk_S) (sz k c : Nat), zk_run E (zk_VT E) M_X11_meanWay (C_X11_meanWay E) P PX K (n + 1) 15 [l0, l1, l2, l3] r (σ, sz, k, c) = K 15 [l0, l1, l2, l3] r (σ, sz, k, c)) ∧
  (∀ (n : Nat) (l1 l2 l3 : Option Value) (y0 : Value) (r : List Value) (σ : zk_S) (sz k c : Nat), zk_run E (zk_VT E) M_X11_meanWay (C_X11_meanWay E) P PX K (n + 1) 16 [some y0, l1, l2, l3] r (σ, sz, k, c) = (zk_isr y0 ∧ zk_run E (zk_VT E) M_X11_meanWay (C_X11_meanWay E) P PX K n 17 [some y0, l1, l2, l3] (y0 :: r) (σ, sz, k, c))) ∧
  (∀ (n : Nat) (l0 l1 l2 l3 : Option Value) (a : Nat) (r : List Value) (σ : zk_S) (sz k c : Nat), zk_run E (zk_VT E) M_X11_meanWay (C_X11_meanWay E) P PX K (n + 1) 17 [l0, l1, l2, l3] (.ref a :: r) (σ, sz, k, c) = zk_fld (zk_view E σ a) [10] 1 (fun v => zk_run E (zk_VT E) M_X11_meanWay (C_X11_meanWay E) P PX K n 20 [l0, l1, l2, l3] (v :: r) (σ, sz, k, c))) ∧
  (∀ (n : Nat) (l0 l1 l2 l3 : Option Value) (x y : Int32) (r : List Value) (σ : zk_S) (sz k c : Nat), zk_run E (zk_VT E) M_X11_meanWay (C_X11_meanWay E) P PX K (n + 1) 20 [l0, l1, l2, l3] (.int y :: .int x :: r) (σ, sz, k, c) = ((y ≤ x → zk_run E (zk_VT E) M_X11_meanWay (C_X11_meanWay E) P PX K n 76 [l0, l1, l2, l3] r (σ, sz, k, c)) ∧ (¬ (y ≤ x) → zk_run E (zk_VT E) M_X11_meanWay (C_X11_meanWay E) P PX K n 23 [l0, l1, l2, l3] r (σ, sz, k, c)))) ∧
  (∀ (n : Nat) (l1 l2 l3 : Option Value) (y0 : Value) (r : List Value) (σ : zk_S) (sz k c : Nat), zk_run E (zk_VT E) M_X11_meanWay (C_X11_meanWay E) P PX K (n + 1) 23 [some y0, l1, l2, l3] r (σ, sz, k, c) = (zk_isr y0 ∧ zk_run E (zk_VT E) M_X11_meanWay (C_X11_meanWay E) P PX K n 24 [some y0, l1, l2, l3] (y0 :: r) (σ, sz, k, c))) ∧
  (∀ (n : Nat) (l0 l1 l2 l3 : Option Value) (a : Nat) (r : List Value) (σ : zk_S) (sz k c : Nat), zk_run E (zk_VT E) M_X11_meanWay (C_X11_meanWay E) P PX K (n + 1) 24 [l0, l1, l2, l3] (.ref a :: r) (σ, sz, k, c) = zk_fld (zk_view E σ a) [10] 2 (fun v => zk_run E (zk_VT E) M_X11_meanWay (C_X11_meanWay E) P PX K n 27 [l0, l1, l2, l3] (v :: r) (σ, sz, k, c))) ∧
  (∀ (n : Nat) (l0 l1 l2 : Option Value) (y3 : Int32) (r : List Value) (σ : zk_S) (sz k c : Nat), zk_run E (zk_VT E) M_X11_meanWay (C_X11_meanWay E) P PX K (n + 1) 27 [l0, l1, l2, some (.int y3)] r (σ, sz, k, c) = zk_run E (zk_VT E) M_X11_meanWay (C_X11_meanWay E) P PX K n 28 [l0, l1, l2, some (.int y3)] (.int y3 :: r) (σ, sz, k, c)) ∧
  (∀ (n : Nat) (l0 l1 l2 l3 : Option Value) (a : Nat) (i : Int32) (r : List Value) (σ : zk_S) (sz k c : Nat), zk_run E (zk_VT E) M_X11_meanWay (C_X11_meanWay E) P PX K (n + 1) 28 [l0, l1, l2, l3] (.int i :: .ref a :: r) (σ, sz, k, c) = zk_ild (zk_view E σ a) (zk_ar E 0) i (fun x => zk_run E (zk_VT E) M_X11_meanWay (C_X11_meanWay E) P PX K n 29 [l0, l1, l2, l3] (.int x :: r) (σ, sz, k, c))) ∧
  (∀ (n : Nat) (l0 l1 l2 l3 : Option Value)  (r : List Value) (σ : zk_S) (sz k c : Nat), zk_run E (zk_VT E) M_X11_meanWay (C_X11_meanWay E) P PX K (n + 1) 29 [l0, l1, l2, l3] r (σ, sz, k, c) = zk_run E (zk_VT E) M_X11_meanWay (C_X11_meanWay E) P PX K n 31 [l0, l1, l2, l3] (.int ((-2)) :: r) (σ, sz, k, c)) ∧
  (∀ (n : Nat) (l0 l1 l2 l3 : Option Value) (x y : Int32) (r : List Value) (σ : zk_S) (sz k c : Nat), zk_run E (zk_VT E) M_X11_meanWay (C_X11_meanWay E) P PX K (n + 1) 31 [l0, l1, l2, l3] (.int y :: .int x :: r) (σ, sz, k, c) = ((x = y → zk_run E (zk_VT E) M_X11_meanWay (C_X11_meanWay E) P PX K n 70 [l0, l1, l2, l3] r (σ, sz, k, c)) ∧ (¬ (x = y) → zk_run E (zk_VT E) M_X11_meanWay (C_X11_meanWay E) P PX K n 34 [l0, l1, l2, l3] r (σ, sz, k, c)))) ∧
  (∀ (n : Nat) (l1 l2 l3 : Option Value) (y0 : Value) (r : List Value) (σ : zk_S) (sz k c : Nat), zk_run E (zk_VT E) M_X11_meanWay (C_X11_meanWay E) P PX K (n + 1) 34 [some y0, l1, l2, l3] r (σ, sz, k, c) = (zk_isr y0 ∧ zk_run E (zk_VT E) M_X11_meanWay (C_X11_meanWay E) P PX K n 35 [some y0, l1, l2, l3] (y0 :: r) (σ, sz, k, c))) ∧
  (∀ (n : Nat) (l0 l1 l2 : Option Value) (y3 : Int32) (r : List Value) (σ : zk_S) (sz k c : Nat), zk_run E (zk_VT E) M_X11_meanWay (C_X11_meanWay E) P PX K (n + 1) 35 [l0, l1, l2, some (.int y3)] r (σ, sz, k, c) = zk_run E (zk_VT E) M_X11_meanWay (C_X11_meanWay E) P PX K n 36 [l0, l1, l2, some (.int y3)] (.int y3 :: r) (σ, sz, k, c)) ∧
  (∀ (n : Nat) (l0 l1 l2 l3 : Option Value) (v0 : Value) (v1 : Value)  (σ : zk_S) (sz k c : Nat), zk_run E (zk_VT E) M_X11_meanWay (C_X11_meanWay E) P PX K (n + 1) 36 [l0, l1, l2, l3] [v0, v1] (σ, sz, k, c) = (k + 0 ≤ 0 ∧ c + 0 ≤ 0 ∧ (zk_rv (zk_VT E) (fun ci => Nat.beq ci 10) (sp_X11_isLostNow E)) [v1, v0] σ sz (fun v s2 z2 => zk_run E (zk_VT E) M_X11_meanWay (C_X11_meanWay E) P PX K n 39 [l0, l1, l2, l3] (zk_psh v []) (s2, z2, k + 0, c + 0)) (fun X s2 z2 => PX X s2 z2))) ∧
  (∀ (n : Nat) (l0 l1 l2 l3 : Option Value) (x : Int32) (r : List Value) (σ : zk_S) (sz k c : Nat), zk_run E (zk_VT E) M_X11_meanWay (C_X11_meanWay E) P PX K (n + 1) 39 [l0, l1, l2, l3] (.int x :: r) (σ, sz, k, c) = ((x = 0 → zk_run E (zk_VT E) M_X11_meanWay (C_X11_meanWay E) P PX K n 45 [l0, l1, l2, l3] r (σ, sz, k, c)) ∧ (¬ (x = 0) → zk_run E (zk_VT E) M_X11_meanWay (C_X11_meanWay E) P PX K n 42 [l0, l1, l2, l3] r (σ, sz, k, c)))) ∧
  (∀ (n : Nat) (l0 l1 l2 l3 : Option Value)  (r : List Value) (σ : zk_S) (sz k c : Nat), zk_run E (zk_VT E) M_X11_meanWay (C_X11_meanWay E) P PX K (n + 1) 42 [l0, l1, l2, l3] r (σ, sz, k, c) = zk_run E (zk_VT E) M_X11_meanWay (C_X11_meanWay E) P PX K n 70 [l0, l1, l2, l3] r (σ, sz, k, c)) ∧
  (∀ (n : Nat) (l0 l2 l3 : Option Value) (y1 : Int32) (r : List Value) (σ : zk_S) (sz k c : Nat), zk_run E (zk_VT E) M_X11_meanWay (C_X11_meanWay E) P PX K (n + 1) 45 [l0, some (.int y1), l2, l3] r (σ, sz, k, c) = zk_run E (zk_VT E) M_X11_meanWay (C_X11_meanWay E) P PX K n 46 [l0, some (.int y1), l2, l3] (.int y1 :: r) (σ, sz, k, c)) ∧
  (∀ (n : Nat) (l1 l2 l3 : Option Value) (y0 : Value) (r : List Value) (σ : zk_S) (sz k c : Nat), zk_run E (zk_VT E) M_X11_meanWay (C_X11_meanWay E) P PX K (n + 1) 46 [some y0, l1, l2, l3] r (σ, sz, k, c) = (zk_isr y0 ∧ zk_run E (zk_VT E) M_X11_meanWay (C_X11_meanWay E) P PX K n 47 [some y0, l1, l2, l3] (y0 :: r) (σ, sz, k, c))) ∧
  (∀ (n : Nat) (l0 l1 l2 l3 : Option Value) (a : Nat) (r : List Value) (σ : zk_S) (sz k c : Nat), zk_run E (zk_VT E) M_X11_meanWay (C_X11_meanWay E) P PX K (n + 1) 47 [l0, l1, l2, l3] (.ref a :: r) (σ, sz, k, c) = zk_fld (zk_view E σ a) [10] 8 (fun v => zk_run E (zk_VT E) M_X11_meanWay (C_X11_meanWay E) P PX K n 50 [l0, l1, l2, l3] (v :: r) (σ, sz, k, c))) ∧
  (∀ (n : Nat) (l0 l1 l2 : Option Value) (y3 : Int32) (r : List Value) (σ : zk_S) (sz k c : Nat), zk_run E (zk_VT E) M_X11_meanWay (C_X11_meanWay E) P PX K (n + 1) 50 [l0, l1, l2, some (.int y3)] r (σ, sz, k, c) = zk_run E (zk_VT E) M_X11_meanWay (C_X11_meanWay E) P PX K n 51 [l0, l1, l2, some (.int y3)] (.int y3 :: r) (σ, sz, k, c)) ∧
  (∀ (n : Nat) (l0 l1 l2 l3 : Option Value) (a : Nat) (i : Int32) (r : List Value) (σ : zk_S) (sz k c : Nat), zk_run E (zk_VT E) M_X11_meanWay (C_X11_meanWay E) P PX K (n + 1) 51 [l0, l1, l2, l3] (.int i :: .ref a :: r) (σ, sz, k, c) = zk_ild (zk_view E σ a) (zk_ar E 0) i (fun x => zk_run E (zk_VT E) M_X11_meanWay (C_X11_meanWay E) P PX K n 52 [l0, l1, l2, l3] (.int x :: r) (σ, sz, k, c))) ∧
  (∀ (n : Nat) (l1 l2 l3 : Option Value) (y0 : Value) (r : List Value) (σ : zk_S) (sz k c : Nat), zk_run E (zk_VT E) M_X11_meanWay (C_X11_meanWay E) P PX K (n + 1) 52 [some y0, l1, l2, l3] r (σ, sz, k, c) = (zk_isr y0 ∧ zk_run E (zk_VT E) M_X11_meanWay (C_X11_meanWay E) P PX K n 53 [some y0, l1, l2, l3] (y0 :: r) (σ, sz, k, c))) ∧
  (∀ (n : Nat) (l0 l1 l2 l3 : Option Value) (a : Nat) (r : List Value) (σ : zk_S) (sz k c : Nat), zk_run E (zk_VT E) M_X11_meanWay (C_X11_meanWay E) P PX K (n + 1) 53 [l0, l1, l2, l3] (.ref a :: r) (σ, sz, k, c) = zk_fld (zk_view E σ a) [10] 31 (fun v => zk_run E (zk_VT E) M_X11_meanWay (C_X11_meanWay E) P PX K n 56 [l0, l1, l2, l3] (v :: r) (σ, sz, k, c))) ∧
  (∀ (n : Nat) (l0 l1 l2 : Option Value) (y3 : Int32) (r : List Value) (σ : zk_S) (sz k c : Nat), zk_run E (zk_VT E) M_X11_meanWay (C_X11_meanWay E) P PX K (n + 1) 56 [l0, l1, l2, some (.int y3)] r (σ, sz, k, c) = zk_run E (zk_VT E) M_X11_meanWay (C_X11_meanWay E) P PX K n 57 [l0, l1, l2, some (.int y3)] (.int y3 :: r) (σ, sz, k, c)) ∧
  (∀ (n : Nat) (l0 l1 l2 l3 : Option Value) (a : Nat) (i : Int32) (r : List Value) (σ : zk_S) (sz k c : Nat), zk_run E (zk_VT E) M_X11_meanWay (C_X11_meanWay E) P PX K (n + 1) 57 [l0, l1, l2, l3] (.int i :: .ref a :: r) (σ, sz, k, c) = zk_ild (zk_view E σ a) (zk_ar E 0) i (fun x => zk_run E (zk_VT E) M_X11_meanWay (C_X11_meanWay E) P PX K n 58 [l0, l1, l2, l3] (.int x :: r) (σ, sz, k, c))) ∧
  (∀ (n : Nat) (l0 l1 l2 l3 : Option Value) (x y : Int32) (r : List Value) (σ : zk_S) (sz k c : Nat), zk_run E (zk_VT E) M_X11_meanWay (C_X11_meanWay E) P PX K (n + 1) 58 [l0, l1, l2, l3] (.int y :: .int x :: r) (σ, sz, k, c) = zk_run E (zk_VT E) M_X11_meanWay (C_X11_meanWay E) P PX K n 59 [l0, l1, l2, l3] (.int (x * y) :: r) (σ, sz, k, c)) ∧
  (∀ (n : Nat) (l0 l1 l2 l3 : Option Value) (x y : Int32) (r : List Value) (σ : zk_S) (sz k c : Nat), zk_run E (zk_VT E) M_X11_meanWay (C_X11_meanWay E) P PX K (n + 1) 59 [l0, l1, l2, l3] (.int y :: .int x :: r) (σ, sz, k, c) = zk_run E (zk_VT E) M_X11_meanWay (C_X11_meanWay E) P PX K n 60 [l0, l1, l2, l3] (.int (x + y) :: r) (σ, sz, k, c)) ∧
  (∀ (n : Nat) (l0 l1 l2 l3 : Option Value) (x : Int32) (r : List Value) (σ : zk_S) (sz k c : Nat), zk_run E (zk_VT E) M_X11_meanWay (C_X11_meanWay E) P PX K (n + 1) 60 [l0, l1, l2, l3] (.int x :: r) (σ, sz, k, c) = zk_run E (zk_VT E) M_X11_meanWay (C_X11_meanWay E) P PX K n 61 [zk_kl l0, some (.int x), l2, l3] r (σ, sz, k, c)) ∧
  (∀ (n : Nat) (l0 l1 l3 : Option Value) (y2 : Int32) (r : List Value) (σ : zk_S) (sz k c : Nat), zk_run E (zk_VT E) M_X11_meanWay (C_X11_meanWay E) P PX K (n + 1) 61 [l0, l1, some (.int y2), l3] r (σ, sz, k, c) = zk_run E (zk_VT E) M_X11_meanWay (C_X11_meanWay E) P PX K n 62 [l0, l1, some (.int y2), l3] (.int y2 :: r) (σ, sz, k, c)) ∧
  (∀ (n : Nat) (l1 l2 l3 : Option Value) (y0 : Value) (r : List Value) (σ : zk_S) (sz k c : Nat), zk_run E (zk_VT E) M_X11_meanWay (C_X11_meanWay E) P PX K (n + 1) 62 [some y0, l1, l2, l3] r (σ, sz, k, c) = (zk_isr y0 ∧ zk_run E (zk_VT E) M_X11_meanWay (C_X11_meanWay E) P PX K n 63 [some y0, l1, l2, l3] (y0 :: r) (σ, sz, k, c))) := ⟨by intros; rfl, by intros; rfl, by intros; rfl, by intros; rfl, by intros; rfl, by intros; rfl, by intros; rfl, by intros; rfl, by intros; rfl, by intros; rfl, by intros; rfl, by intros; rfl, by intros; rfl, by intros; rfl, by intros; rfl, by intros; rfl, by intros; rfl, by intros; rfl, by intros; rfl, by intros; rfl, by intros; rfl, by intros; rfl, by intros; rfl, by intros; rfl, by intros; rfl, by intros; rfl, by intros; rfl, by intros; rfl, by intros; rfl, by intros; rfl, by intros; rfl, by intros; rfl, by intros; rfl, by intros; rfl, by intros; rfl, by intros; rfl, by intros; rfl, by intros; rfl, by intros; rfl, by intros; rfl⟩
theorem r_X11_meanWay_1 (E : zk_E) (P : zk_P zk_S) (PX : zk_X zk_S) (K : Nat → zk_L → List Value → zk_W zk_S → Prop) : (∀ (n : Nat) (l0 l1 l2 l3 : Option Value) (a : Nat) (r : List Value) (σ : zk_S) (sz k c : Nat), zk_run E (zk_VT E) M_X11_meanWay (C_X11_meanWay E) P PX K (n + 1) 63 [l0, l1, l2, l3] (.ref a :: r) (σ, sz, k, c) = zk_fld (zk_view E σ a) [10] 8 (fun v => zk_run E (zk_VT E) M_X11_meanWay (C_X11_meanWay E) P PX K n 66 [l0, l1, l2, l3] (v :: r) (σ, sz, k, c))) ∧
  (∀ (n : Nat) (l0 l1 l2 : Option Value) (y3 : Int32) (r : List Value) (σ : zk_S) (sz k c : Nat), zk_run E (zk_VT E) M_X11_meanWay (C_X11_meanWay E) P PX K (n + 1) 66 [l0, l1, l2, some (.int y3)] r (σ, sz, k, c) = zk_run E (zk_VT E) M_X11_meanWay (C_X11_meanWay E) P PX K n 67 [l0, l1, l2, some (.int y3)] (.int y3 :: r) (σ, sz, k, c)) ∧
  (∀ (n : Nat) (l0 l1 l2 l3 : Option Value) (a : Nat) (i : Int32) (r : List Value) (σ : zk_S) (sz k c : Nat), zk_run E (zk_VT E) M_X11_meanWay (C_X11_meanWay E) P PX K (n + 1) 67 [l0, l1, l2, l3] (.int i :: .ref a :: r) (σ, sz, k, c) = zk_ild (zk_view E σ a) (zk_ar E 0) i (fun x => zk_run E (zk_VT E) M_X11_meanWay (C_X11_meanWay E) P PX K n 68 [l0, l1, l2, l3] (.int x :: r) (σ, sz, k, c))) ∧
  (∀ (n : Nat) (l0 l1 l2 l3 : Option Value) (x y : Int32) (r : List Value) (σ : zk_S) (sz k c : Nat), zk_run E (zk_VT E) M_X11_meanWay (C_X11_meanWay E) P PX K (n + 1) 68 [l0, l1, l2, l3] (.int y :: .int x :: r) (σ, sz, k, c) = zk_run E (zk_VT E) M_X11_meanWay (C_X11_meanWay E) P PX K n 69 [l0, l1, l2, l3] (.int (x + y) :: r) (σ, sz, k, c)) ∧
  (∀ (n : Nat) (l0 l1 l2 l3 : Option Value) (x : Int32) (r : List Value) (σ : zk_S) (sz k c : Nat), zk_run E (zk_VT E) M_X11_meanWay (C_X11_meanWay E) P PX K (n + 1) 69 [l0, l1, l2, l3] (.int x :: r) (σ, sz, k, c) = zk_run E (zk_VT E) M_X11_meanWay (C_X11_meanWay E) P PX K n 70 [l0, zk_kl l1, some (.int x), l3] r (σ, sz, k, c)) ∧
  (∀ (n : Nat) (l0 l1 l2 : Option Value) (y3 : Int32) (r : List Value) (σ : zk_S) (sz k c : Nat), zk_run E (zk_VT E) M_X11_meanWay (C_X11_meanWay E) P PX K (n + 1) 70 [l0, l1, l2, some (.int y3)] r (σ, sz, k, c) = zk_run E (zk_VT E) M_X11_meanWay (C_X11_meanWay E) P PX K n 73 [l0, l1, zk_kl l2, some (.int (y3 + 1))] r (σ, sz, k, c)) ∧
  (∀ (n : Nat) (l0 l1 l2 l3 : Option Value)  (r : List Value) (σ : zk_S) (sz k c : Nat), zk_run E (zk_VT E) M_X11_meanWay (C_X11_meanWay E) P PX K (n + 1) 73 [l0, l1, l2, l3] r (σ, sz, k, c) = zk_run E (zk_VT E) M_X11_meanWay (C_X11_meanWay E) P PX K n 15 [l0, l1, l2, l3] r (σ, sz, k, c)) ∧
  (∀ (n : Nat) (l0 l1 l3 : Option Value) (y2 : Int32) (r : List Value) (σ : zk_S) (sz k c : Nat), zk_run E (zk_VT E) M_X11_meanWay (C_X11_meanWay E) P PX K (n + 1) 76 [l0, l1, some (.int y2), l3] r (σ, sz, k, c) = zk_run E (zk_VT E) M_X11_meanWay (C_X11_meanWay E) P PX K n 77 [l0, l1, some (.int y2), l3] (.int y2 :: r) (σ, sz, k, c)) ∧
  (∀ (n : Nat) (l0 l1 l2 l3 : Option Value) (x : Int32) (r : List Value) (σ : zk_S) (sz k c : Nat), zk_run E (zk_VT E) M_X11_meanWay (C_X11_meanWay E) P PX K (n + 1) 77 [l0, l1, l2, l3] (.int x :: r) (σ, sz, k, c) = ((¬ x = 0 → zk_run E (zk_VT E) M_X11_meanWay (C_X11_meanWay E) P PX K n 84 [l0, l1, l2, l3] r (σ, sz, k, c)) ∧ (¬ (¬ x = 0) → zk_run E (zk_VT E) M_X11_meanWay (C_X11_meanWay E) P PX K n 80 [l0, l1, l2, l3] r (σ, sz, k, c)))) ∧
  (∀ (n : Nat) (l0 l1 l2 l3 : Option Value)  (r : List Value) (σ : zk_S) (sz k c : Nat), zk_run E (zk_VT E) M_X11_meanWay (C_X11_meanWay E) P PX K (n + 1) 80 [l0, l1, l2, l3] r (σ, sz, k, c) = zk_run E (zk_VT E) M_X11_meanWay (C_X11_meanWay E) P PX K n 81 [l0, l1, l2, l3] (.double 0 :: r) (σ, sz, k, c)) ∧
  (∀ (n : Nat) (l0 l1 l2 l3 : Option Value)  (r : List Value) (σ : zk_S) (sz k c : Nat), zk_run E (zk_VT E) M_X11_meanWay (C_X11_meanWay E) P PX K (n + 1) 81 [l0, l1, l2, l3] r (σ, sz, k, c) = zk_run E (zk_VT E) M_X11_meanWay (C_X11_meanWay E) P PX K n 89 [l0, l1, l2, l3] r (σ, sz, k, c)) ∧
  (∀ (n : Nat) (l0 l2 l3 : Option Value) (y1 : Int32) (r : List Value) (σ : zk_S) (sz k c : Nat), zk_run E (zk_VT E) M_X11_meanWay (C_X11_meanWay E) P PX K (n + 1) 84 [l0, some (.int y1), l2, l3] r (σ, sz, k, c) = zk_run E (zk_VT E) M_X11_meanWay (C_X11_meanWay E) P PX K n 85 [l0, some (.int y1), l2, l3] (.int y1 :: r) (σ, sz, k, c)) ∧
  (∀ (n : Nat) (l0 l1 l2 l3 : Option Value) (x : Int32) (r : List Value) (σ : zk_S) (sz k c : Nat), zk_run E (zk_VT E) M_X11_meanWay (C_X11_meanWay E) P PX K (n + 1) 85 [l0, l1, l2, l3] (.int x :: r) (σ, sz, k, c) = zk_run E (zk_VT E) M_X11_meanWay (C_X11_meanWay E) P PX K n 86 [l0, l1, l2, l3] (.double (FP.i2d x) :: r) (σ, sz, k, c)) ∧
  (∀ (n : Nat) (l0 l1 l3 : Option Value) (y2 : Int32) (r : List Value) (σ : zk_S) (sz k c : Nat), zk_run E (zk_VT E) M_X11_meanWay (C_X11_meanWay E) P PX K (n + 1) 86 [l0, l1, some (.int y2), l3] r (σ, sz, k, c) = zk_run E (zk_VT E) M_X11_meanWay (C_X11_meanWay E) P PX K n 87 [l0, l1, some (.int y2), l3] (.int y2 :: r) (σ, sz, k, c)) ∧
  (∀ (n : Nat) (l0 l1 l2 l3 : Option Value) (x : Int32) (r : List Value) (σ : zk_S) (sz k c : Nat), zk_run E (zk_VT E) M_X11_meanWay (C_X11_meanWay E) P PX K (n + 1) 87 [l0, l1, l2, l3] (.int x :: r) (σ, sz, k, c) = zk_run E (zk_VT E) M_X11_meanWay (C_X11_meanWay E) P PX K n 88 [l0, l1, l2, l3] (.double (FP.i2d x) :: r) (σ, sz, k, c)) ∧
  (∀ (n : Nat) (l0 l1 l2 l3 : Option Value) (x y : UInt64) (r : List Value) (σ : zk_S) (sz k c : Nat), zk_run E (zk_VT E) M_X11_meanWay (C_X11_meanWay E) P PX K (n + 1) 88 [l0, l1, l2, l3] (.double y :: .double x :: r) (σ, sz, k, c) = (vf_n64 (FP.ddiv x y) ∧ zk_run E (zk_VT E) M_X11_meanWay (C_X11_meanWay E) P PX K n 89 [l0, l1, l2, l3] (.double (FP.ddiv x y) :: r) (σ, sz, k, c))) ∧
  (∀ (n : Nat) (l0 l1 l2 l3 : Option Value) (x : UInt64)  (σ : zk_S) (sz k c : Nat), zk_run E (zk_VT E) M_X11_meanWay (C_X11_meanWay E) P PX K (n + 1) 89 [l0, l1, l2, l3] [.double x] (σ, sz, k, c) = (P (some (.double x)) σ sz ∧ k ≤ 0 ∧ c ≤ 0)) ∧
  (∀ (n : Nat) (l0 l1 l2 l3 : Option Value) (r : List Value) (w : zk_W zk_S), zk_go E (zk_VT E) M_X11_meanWay (C_X11_meanWay E) P PX K n 0 [l0, l1, l2, l3] r w = zk_run E (zk_VT E) M_X11_meanWay (C_X11_meanWay E) P PX K (n + 1) 0 [l0, l1, l2, l3] r w) ∧
  (∀ (n : Nat) (l0 l1 l2 : Option Value) (y3 : Int32) (r : List Value) (σ : zk_S) (sz k c : Nat), zk_go E (zk_VT E) M_X11_meanWay (C_X11_meanWay E) P PX K n 15 [l0, l1, l2, some (.int y3)] r (σ, sz, k, c) = zk_run E (zk_VT E) M_X11_meanWay (C_X11_meanWay E) P PX K n 16 [l0, l1, l2, some (.int y3)] (.int y3 :: r) (σ, sz, k, c)) := ⟨by intros; rfl, by intros; rfl, by intros; rfl, by intros; rfl, by intros; rfl, by intros; rfl, by intros; rfl, by intros; rfl, by intros; rfl, by intros; rfl, by intros; rfl, by intros; rfl, by intros; rfl, by intros; rfl, by intros; rfl, by intros; rfl, by intros; rfl, by intros; rfl, by intros; rfl⟩
theorem vc_X11_meanWay (E : zk_E) : zk_VC E (zk_VT E) M_X11_meanWay (C_X11_meanWay E) 4 (sp_X11_meanWay E) := by
  intro av σ sz P PX h
  obtain ⟨J, N, Q, O, U⟩ := σ
  unfold sp_X11_meanWay at h
  split at h
  case h_2 => exact h.elim
  rename_i a0
  obtain ⟨rfl, h⟩ := h
  refine ⟨Nat.le_of_ble_eq_true rfl, fun G hG => ?_⟩
  change G 0 [some (.ref (zk_ad E 22)), none, none, none] [] ((J, N, Q, O, U), sz, 0, 0)
  try dsimp only at h
  obtain ⟨hmi, h⟩ := h
  have hms := hmi.1
  (refine hG 900 _ _ _ _ ?_; simp only [r_X11_meanWay, r_X11_meanWay_1, zk_kl_none, zk_kl_int, zk_kl_ref, zk_kl_null, zk_kl_long, zk_kl_rf, zk_isr_ref, zk_isr_null, zk_isr_rf9, zk_c1_int, zk_c1_ref, zk_c1_null, zk_c1_rf, zk_psh_some, zk_psh_none, zk_nok_int, zk_nok_bool0, zk_nok_bool1, zk_nok_b, zk_fok_0, zk_fok_1, zk_fok_2, zk_fok_n, zk_fok_rf, zb_f, zb_p, zb_i, zb_a, zb_s, zk_nth_0, zk_nth_s, zk_fld_o, zk_put_o, zk_rv_eq, zk_ri_eq, zk_is_o, List.mem_cons, List.not_mem_nil, or_false, false_or, or_true, true_or, and_true, true_and, not_false_iff, not_true_eq_false, true_implies, false_implies, imp_self, implies_true, forall_const, zk_lit, zk_uj_ap, zk_un_ap, zk_un_un, zk_uj_uj, Nat.reduceEqDiff, eq_self, zk_bq, Bool.true_or, Bool.false_or, Nat.le_refl, Nat.zero_add, Nat.add_zero, Nat.reduceAdd, Nat.reduceLeDiff, Nat.le_zero_eq, and_self, and_false, false_and, ite_true, ite_false, Nat.zero_le, List.length_cons, List.length_nil, Option.some.injEq, forall_eq', reduceCtorEq, spe_X11_solve])
  refine ⟨hmi.thr 0, fun J2 N2 hso => ?_⟩
  have qe := (QE.thr J N 0).so hso
  have es := qe.es
  have hms2 := es.ms hms
  have hsv := hso.sv
  have h2 := h J2 N2 O sz qe (fun _ _ => rfl) (Nat.le_refl _)
  rw [← es.mean] at h2
  clear h hso
  have hnr := hms2.1.1
  have hnr20 := hms2.1.2
  have loop : ∀ m r, r + m = m_nr J2 → G 15 [some (.ref (zk_ad E 22)), some (.int (m_sum (g_ms J2 N2) r)), some (.int (m_sum (g_mp J2 N2) r)), some (.int (nI r))] [] ((J2, N2, Q, O, U), sz, 0, 0) := by
    intro m
    induction m with
    | zero =>
      intro r hr
      have c1 : nI (m_nr J2) ≤ nI r := nI_le (by omega) (by omega)
      rw [show r = m_nr J2 by omega] at c1 ⊢
      unfold a_mean at h2
      by_cases q : m_sum (g_mp J2 N2) (m_nr J2) = 0
      · rw [if_pos q] at h2
        rw [q]
        (refine hG 900 _ _ _ _ ?_; simp only [r_X11_meanWay, r_X11_meanWay_1, zk_kl_none, zk_kl_int, zk_kl_ref, zk_kl_null, zk_kl_long, zk_kl_rf, zk_isr_ref, zk_isr_null, zk_isr_rf9, zk_c1_int, zk_c1_ref, zk_c1_null, zk_c1_rf, zk_psh_some, zk_psh_none, zk_nok_int, zk_nok_bool0, zk_nok_bool1, zk_nok_b, zk_fok_0, zk_fok_1, zk_fok_2, zk_fok_n, zk_fok_rf, zb_f, zb_p, zb_i, zb_a, zb_s, zk_nth_0, zk_nth_s, zk_fld_o, zk_put_o, zk_rv_eq, zk_ri_eq, zk_is_o, List.mem_cons, List.not_mem_nil, or_false, false_or, or_true, true_or, and_true, true_and, not_false_iff, not_true_eq_false, true_implies, false_implies, imp_self, implies_true, forall_const, zk_lit, zk_uj_ap, zk_un_ap, zk_un_un, zk_uj_uj, Nat.reduceEqDiff, eq_self, zk_bq, Bool.true_or, Bool.false_or, Nat.le_refl, Nat.zero_add, Nat.add_zero, Nat.reduceAdd, Nat.reduceLeDiff, Nat.le_zero_eq, and_self, and_false, false_and, ite_true, ite_false, Nat.zero_le, List.length_cons, List.length_nil, Option.some.injEq, forall_eq', reduceCtorEq, hnr, c1])
        exact h2
      · rw [if_neg q] at h2
        have hn := n_ddiv (m_sum (g_ms J2 N2) (m_nr J2)) _ q
        (refine hG 900 _ _ _ _ ?_; simp only [r_X11_meanWay, r_X11_meanWay_1, zk_kl_none, zk_kl_int, zk_kl_ref, zk_kl_null, zk_kl_long, zk_kl_rf, zk_isr_ref, zk_isr_null, zk_isr_rf9, zk_c1_int, zk_c1_ref, zk_c1_null, zk_c1_rf, zk_psh_some, zk_psh_none, zk_nok_int, zk_nok_bool0, zk_nok_bool1, zk_nok_b, zk_fok_0, zk_fok_1, zk_fok_2, zk_fok_n, zk_fok_rf, zb_f, zb_p, zb_i, zb_a, zb_s, zk_nth_0, zk_nth_s, zk_fld_o, zk_put_o, zk_rv_eq, zk_ri_eq, zk_is_o, List.mem_cons, List.not_mem_nil, or_false, false_or, or_true, true_or, and_true, true_and, not_false_iff, not_true_eq_false, true_implies, false_implies, imp_self, implies_true, forall_const, zk_lit, zk_uj_ap, zk_un_ap, zk_un_un, zk_uj_uj, Nat.reduceEqDiff, eq_self, zk_bq, Bool.true_or, Bool.false_or, Nat.le_refl, Nat.zero_add, Nat.add_zero, Nat.reduceAdd, Nat.reduceLeDiff, Nat.le_zero_eq, and_self, and_false, false_and, ite_true, ite_false, Nat.zero_le, List.length_cons, List.length_nil, Option.some.injEq, forall_eq', reduceCtorEq, hnr, c1, q, hn])
        exact h2
    | succ m ih =>
      intro r hr
      have c1 : ¬ nI (m_nr J2) ≤ nI r := nI_ge (by omega) (by omega)
      have hin : vp_in (nI r) 20 := n_in (by omega) (by decide)
      have hcl : (nI r).toNatClampNeg = r := n_cl (by omega)
      have hx : ∃ j', j' < m_nr J2 ∧ nI r = nI j' := ⟨r, by omega, rfl⟩
      have ih2 := ih (r + 1) (by omega)
      rw [m_sum, m_sum, g_ms, g_mp] at ih2
      by_cases q1 : N2 23 r = -2
      · have qo : g_mo J2 N2 r = true := by unfold g_mo; rw [decide_eq_true q1]; rfl
        rw [if_pos qo, if_pos qo, Int32.add_zero, Int32.add_zero] at ih2
        (refine hG 900 _ _ _ _ ?_; simp only [r_X11_meanWay, r_X11_meanWay_1, zk_kl_none, zk_kl_int, zk_kl_ref, zk_kl_null, zk_kl_long, zk_kl_rf, zk_isr_ref, zk_isr_null, zk_isr_rf9, zk_c1_int, zk_c1_ref, zk_c1_null, zk_c1_rf, zk_psh_some, zk_psh_none, zk_nok_int, zk_nok_bool0, zk_nok_bool1, zk_nok_b, zk_fok_0, zk_fok_1, zk_fok_2, zk_fok_n, zk_fok_rf, zb_f, zb_p, zb_i, zb_a, zb_s, zk_nth_0, zk_nth_s, zk_fld_o, zk_put_o, zk_rv_eq, zk_ri_eq, zk_is_o, List.mem_cons, List.not_mem_nil, or_false, false_or, or_true, true_or, and_true, true_and, not_false_iff, not_true_eq_false, true_implies, false_implies, imp_self, implies_true, forall_const, zk_lit, zk_uj_ap, zk_un_ap, zk_un_un, zk_uj_uj, Nat.reduceEqDiff, eq_self, zk_bq, Bool.true_or, Bool.false_or, Nat.le_refl, Nat.zero_add, Nat.add_zero, Nat.reduceAdd, Nat.reduceLeDiff, Nat.le_zero_eq, and_self, and_false, false_and, ite_true, ite_false, Nat.zero_le, List.length_cons, List.length_nil, Option.some.injEq, forall_eq', reduceCtorEq, hnr, c1, hin, hcl, q1, n_succ])
        exact ih2
      · by_cases q2 : lea J2 N2 r = 100
        · have qo : g_mo J2 N2 r = true := by unfold g_mo; rw [decide_eq_true q2, Bool.or_true]
          rw [if_pos qo, if_pos qo, Int32.add_zero, Int32.add_zero] at ih2
          have ql : a_isLost J2 N2 r = true := decide_eq_true q2
          (refine hG 900 _ _ _ _ ?_; simp only [r_X11_meanWay, r_X11_meanWay_1, zk_kl_none, zk_kl_int, zk_kl_ref, zk_kl_null, zk_kl_long, zk_kl_rf, zk_isr_ref, zk_isr_null, zk_isr_rf9, zk_c1_int, zk_c1_ref, zk_c1_null, zk_c1_rf, zk_psh_some, zk_psh_none, zk_nok_int, zk_nok_bool0, zk_nok_bool1, zk_nok_b, zk_fok_0, zk_fok_1, zk_fok_2, zk_fok_n, zk_fok_rf, zb_f, zb_p, zb_i, zb_a, zb_s, zk_nth_0, zk_nth_s, zk_fld_o, zk_put_o, zk_rv_eq, zk_ri_eq, zk_is_o, List.mem_cons, List.not_mem_nil, or_false, false_or, or_true, true_or, and_true, true_and, not_false_iff, not_true_eq_false, true_implies, false_implies, imp_self, implies_true, forall_const, zk_lit, zk_uj_ap, zk_un_ap, zk_un_un, zk_uj_uj, Nat.reduceEqDiff, eq_self, zk_bq, Bool.true_or, Bool.false_or, Nat.le_refl, Nat.zero_add, Nat.add_zero, Nat.reduceAdd, Nat.reduceLeDiff, Nat.le_zero_eq, and_self, and_false, false_and, ite_true, ite_false, Nat.zero_le, List.length_cons, List.length_nil, Option.some.injEq, forall_eq', reduceCtorEq, hnr, c1, hin, hcl, q1, hx, hms2, hsv, spe_X11_isLostNow, ql, zk_b0, Bool.true_eq_false, n_succ])
          exact ih2
        · have qo : ¬ g_mo J2 N2 r = true := by unfold g_mo; rw [decide_eq_false q1, decide_eq_false q2]; decide
          rw [if_neg qo, if_neg qo] at ih2
          have ql : a_isLost J2 N2 r = false := decide_eq_false q2
          have h49 := (hsv.2.2 r (by omega)).2.1
          (refine hG 900 _ _ _ _ ?_; simp only [r_X11_meanWay, r_X11_meanWay_1, zk_kl_none, zk_kl_int, zk_kl_ref, zk_kl_null, zk_kl_long, zk_kl_rf, zk_isr_ref, zk_isr_null, zk_isr_rf9, zk_c1_int, zk_c1_ref, zk_c1_null, zk_c1_rf, zk_psh_some, zk_psh_none, zk_nok_int, zk_nok_bool0, zk_nok_bool1, zk_nok_b, zk_fok_0, zk_fok_1, zk_fok_2, zk_fok_n, zk_fok_rf, zb_f, zb_p, zb_i, zb_a, zb_s, zk_nth_0, zk_nth_s, zk_fld_o, zk_put_o, zk_rv_eq, zk_ri_eq, zk_is_o, List.mem_cons, List.not_mem_nil, or_false, false_or, or_true, true_or, and_true, true_and, not_false_iff, not_true_eq_false, true_implies, false_implies, imp_self, implies_true, forall_const, zk_lit, zk_uj_ap, zk_un_ap, zk_un_un, zk_uj_uj, Nat.reduceEqDiff, eq_self, zk_bq, Bool.true_or, Bool.false_or, Nat.le_refl, Nat.zero_add, Nat.add_zero, Nat.reduceAdd, Nat.reduceLeDiff, Nat.le_zero_eq, and_self, and_false, false_and, ite_true, ite_false, Nat.zero_le, List.length_cons, List.length_nil, Option.some.injEq, forall_eq', reduceCtorEq, hnr, c1, hin, hcl, q1, hx, hms2, hsv, h49, spe_X11_isLostNow, ql, zk_b0, n_succ])
          exact ih2
  have l0 := loop (m_nr J2) 0 (by omega)
  exact l0
theorem ct_X11_meanWay {l : Launch} (hl : l.stackTraces = false) (E : zk_E) : zk_C l E (zk_VT E) yX11_meanWay cX11_meanWay 4 (some (.double)) rm_X11_meanWay (sp_X11_meanWay E) := by
  refine zk_meth (M := M_X11_meanWay) (C := C_X11_meanWay E) hl (by decide +kernel) rfl (fun _ _ => rfl) (zk_VT_ok E) MO_X11_meanWay TO_X11_meanWay THo_X11_meanWay ?_ (vc_X11_meanWay E)
  exact fun p e s m args below meth c X pc n mc ms sp2 h => by
    have h2 := zk_lka_mem h
    simp only [List.mem_cons, List.not_mem_nil, or_false, Prod.mk.injEq] at h2
    rcases h2 with ⟨rfl, rfl, rfl, rfl, rfl⟩ | ⟨rfl, rfl, rfl, rfl, rfl⟩
    · exact zk_coV (idx := 227) X (ct_X11_solve hl E) (List.forall_mem_cons.mpr ⟨zk_wi 1227 (by decide +kernel) rfl, List.forall_mem_cons.mpr ⟨zk_wi 1229 (by decide +kernel) rfl, List.forall_mem_cons.mpr ⟨zk_wp 24 (by decide +kernel) rfl, List.forall_mem_cons.mpr ⟨zk_wi 6 (by decide +kernel) rfl, List.forall_mem_cons.mpr ⟨zk_wi 1230 (by decide +kernel) rfl, fun _ h => absurd h List.not_mem_nil⟩⟩⟩⟩⟩) (fun ci h => by
      have h := Nat.eq_of_beq_eq_true h
      subst h
      exact ⟨_, _, rfl⟩) (by decide +kernel) ⟨by decide, by decide, by decide +kernel⟩ ⟨by decide, by decide⟩
    · exact zk_coV (idx := 230) X (ct_X11_isLostNow hl E) (List.forall_mem_cons.mpr ⟨zk_wi 1273 (by decide +kernel) rfl, List.forall_mem_cons.mpr ⟨zk_wi 1275 (by decide +kernel) rfl, List.forall_mem_cons.mpr ⟨zk_wp 35 (by decide +kernel) rfl, List.forall_mem_cons.mpr ⟨zk_wi 6 (by decide +kernel) rfl, List.forall_mem_cons.mpr ⟨zk_wi 1276 (by decide +kernel) rfl, fun _ h => absurd h List.not_mem_nil⟩⟩⟩⟩⟩) (fun ci h => by
      have h := Nat.eq_of_beq_eq_true h
      subst h
      exact ⟨_, _, rfl⟩) (by decide +kernel) ⟨by decide, by decide, by decide +kernel⟩ ⟨by decide, by decide⟩
def g_st (J N : Nat → Nat → Int32) (r : Nat) : Int32 := if ¬ N 23 r = -2 ∧ g_deep J N r = -1 then N 29 r else 0
def a_stuck (J N : Nat → Nat → Int32) : Int32 := m_sum (g_st J N) (m_nr J)
theorem ES.stuck {J J2 N N2 : Nat → Nat → Int32} (h : ES J J2 N N2) : a_stuck J2 N2 = a_stuck J N := by
  unfold a_stuck; rw [h.nr]; congr 1; funext r; unfold g_st; rw [h.deep, h.n (o := 23) (by decide), h.n (o := 29) (by decide)]
def sp_X11_stuck (E : zk_E) : zk_Sp zk_S := fun av σ sz P PX => match av with
  | [.ref a] => a = zk_ad E 22 ∧ MI σ.1 σ.2.1 ∧ ∀ J2 N2, SO σ.1 J2 σ.2.1 N2 → P (some (.int (a_stuck σ.1 σ.2.1))) (J2, N2, σ.2.2) sz
  | _ => False
theorem spe_X11_stuck (E : zk_E) (a : Nat) (σ : zk_S) (sz : Nat) (P : zk_P zk_S) (PX : zk_X zk_S) : sp_X11_stuck E [.ref a] σ sz P PX = (a = zk_ad E 22 ∧ MI σ.1 σ.2.1 ∧ ∀ J2 N2, SO σ.1 J2 σ.2.1 N2 → P (some (.int (a_stuck σ.1 σ.2.1))) (J2, N2, σ.2.2) sz) := propext Iff.rfl
def C_X11_stuck (E : zk_E) : zk_Cl zk_S := zk_lka [(1, 1, 0, 0, zk_rv (zk_VT E) (fun ci => Nat.beq ci 10) (sp_X11_solve E))]
theorem r_X11_stuck (E : zk_E) (P : zk_P zk_S) (PX : zk_X zk_S) (K : Nat → zk_L → List Value → zk_W zk_S → Prop) : (∀ (n : Nat) (l1 l2 : Option Value) (y0 : Value) (r : List Value) (σ : zk_S) (sz k c : Nat), zk_run E (zk_VT E) M_X11_stuck (C_X11_stuck E) P PX K (n + 1) 0 [some y0, l1, l2] r (σ, sz, k, c) = (zk_isr y0 ∧ zk_run E (zk_VT E) M_X11_stuck (C_X11_stuck E) P PX K n 1 [some y0, l1, l2] (y0 :: r) (σ, sz, k, c))) ∧
  (∀ (n : Nat) (l0 l1 l2 : Option Value) (v0 : Value)  (σ : zk_S) (sz k c : Nat), zk_run E (zk_VT E) M_X11_stuck (C_X11_stuck E) P PX K (n + 1) 1 [l0, l1, l2] [v0] (σ, sz, k, c) = (k + 0 ≤ 0 ∧ c + 0 ≤ 0 ∧ (zk_rv (zk_VT E) (fun ci => Nat.beq ci 10) (sp_X11_solve E)) [v0] σ sz (fun v s2 z2 => zk_run E (zk_VT E) M_X11_stuck (C_X11_stuck E) P PX K n 4 [l0, l1, l2] (zk_psh v []) (s2, z2, k + 0, c + 0)) (fun X s2 z2 => PX X s2 z2))) ∧
  (∀ (n : Nat) (l0 l1 l2 : Option Value)  (r : List Value) (σ : zk_S) (sz k c : Nat), zk_run E (zk_VT E) M_X11_stuck (C_X11_stuck E) P PX K (n + 1) 4 [l0, l1, l2] r (σ, sz, k, c) = zk_run E (zk_VT E) M_X11_stuck (C_X11_stuck E) P PX K n 5 [l0, l1, l2] (.int (0) :: r) (σ, sz, k, c)) ∧
  (∀ (n : Nat) (l0 l1 l2 : Option Value) (x : Int32) (r : List Value) (σ : zk_S) (sz k c : Nat), zk_run E (zk_VT E) M_X11_stuck (C_X11_stuck E) P PX K (n + 1) 5 [l0, l1, l2] (.int x :: r) (σ, sz, k, c) = zk_run E (zk_VT E) M_X11_stuck (C_X11_stuck E) P PX K n 6 [zk_kl l0, some (.int x), l2] r (σ, sz, k, c)) ∧
  (∀ (n : Nat) (l0 l1 l2 : Option Value)  (r : List Value) (σ : zk_S) (sz k c : Nat), zk_run E (zk_VT E) M_X11_stuck (C_X11_stuck E) P PX K (n + 1) 6 [l0, l1, l2] r (σ, sz, k, c) = zk_run E (zk_VT E) M_X11_stuck (C_X11_stuck E) P PX K n 7 [l0, l1, l2] (.int (0) :: r) (σ, sz, k, c)) ∧
  (∀ (n : Nat) (l0 l1 l2 : Option Value) (x : Int32) (r : List Value) (σ : zk_S) (sz k c : Nat), zk_run E (zk_VT E) M_X11_stuck (C_X11_stuck E) P PX K (n + 1) 7 [l0, l1, l2] (.int x :: r) (σ, sz, k, c) = zk_run E (zk_VT E) M_X11_stuck (C_X11_stuck E) P PX K n 8 [l0, zk_kl l1, some (.int x)] r (σ, sz, k, c)) ∧
  (∀ (n : Nat) (l0 l1 l2 : Option Value)  (r : List Value) (σ : zk_S) (sz k c : Nat), zk_run E (zk_VT E) M_X11_stuck (C_X11_stuck E) P PX K (n + 1) 8 [l0, l1, l2] r (σ, sz, k, c) = K 8 [l0, l1, l2] r (σ, sz, k, c)) ∧
  (∀ (n : Nat) (l1 l2 : Option Value) (y0 : Value) (r : List Value) (σ : zk_S) (sz k c : Nat), zk_run E (zk_VT E) M_X11_stuck (C_X11_stuck E) P PX K (n + 1) 9 [some y0, l1, l2] r (σ, sz, k, c) = (zk_isr y0 ∧ zk_run E (zk_VT E) M_X11_stuck (C_X11_stuck E) P PX K n 10 [some y0, l1, l2] (y0 :: r) (σ, sz, k, c))) ∧
  (∀ (n : Nat) (l0 l1 l2 : Option Value) (a : Nat) (r : List Value) (σ : zk_S) (sz k c : Nat), zk_run E (zk_VT E) M_X11_stuck (C_X11_stuck E) P PX K (n + 1) 10 [l0, l1, l2] (.ref a :: r) (σ, sz, k, c) = zk_fld (zk_view E σ a) [10] 1 (fun v => zk_run E (zk_VT E) M_X11_stuck (C_X11_stuck E) P PX K n 13 [l0, l1, l2] (v :: r) (σ, sz, k, c))) ∧
  (∀ (n : Nat) (l0 l1 l2 : Option Value) (x y : Int32) (r : List Value) (σ : zk_S) (sz k c : Nat), zk_run E (zk_VT E) M_X11_stuck (C_X11_stuck E) P PX K (n + 1) 13 [l0, l1, l2] (.int y :: .int x :: r) (σ, sz, k, c) = ((y ≤ x → zk_run E (zk_VT E) M_X11_stuck (C_X11_stuck E) P PX K n 55 [l0, l1, l2] r (σ, sz, k, c)) ∧ (¬ (y ≤ x) → zk_run E (zk_VT E) M_X11_stuck (C_X11_stuck E) P PX K n 16 [l0, l1, l2] r (σ, sz, k, c)))) ∧
  (∀ (n : Nat) (l0 l2 : Option Value) (y1 : Int32) (r : List Value) (σ : zk_S) (sz k c : Nat), zk_run E (zk_VT E) M_X11_stuck (C_X11_stuck E) P PX K (n + 1) 16 [l0, some (.int y1), l2] r (σ, sz, k, c) = zk_run E (zk_VT E) M_X11_stuck (C_X11_stuck E) P PX K n 17 [l0, some (.int y1), l2] (.int y1 :: r) (σ, sz, k, c)) ∧
  (∀ (n : Nat) (l1 l2 : Option Value) (y0 : Value) (r : List Value) (σ : zk_S) (sz k c : Nat), zk_run E (zk_VT E) M_X11_stuck (C_X11_stuck E) P PX K (n + 1) 17 [some y0, l1, l2] r (σ, sz, k, c) = (zk_isr y0 ∧ zk_run E (zk_VT E) M_X11_stuck (C_X11_stuck E) P PX K n 18 [some y0, l1, l2] (y0 :: r) (σ, sz, k, c))) ∧
  (∀ (n : Nat) (l0 l1 l2 : Option Value) (a : Nat) (r : List Value) (σ : zk_S) (sz k c : Nat), zk_run E (zk_VT E) M_X11_stuck (C_X11_stuck E) P PX K (n + 1) 18 [l0, l1, l2] (.ref a :: r) (σ, sz, k, c) = zk_fld (zk_view E σ a) [10] 2 (fun v => zk_run E (zk_VT E) M_X11_stuck (C_X11_stuck E) P PX K n 21 [l0, l1, l2] (v :: r) (σ, sz, k, c))) ∧
  (∀ (n : Nat) (l0 l1 : Option Value) (y2 : Int32) (r : List Value) (σ : zk_S) (sz k c : Nat), zk_run E (zk_VT E) M_X11_stuck (C_X11_stuck E) P PX K (n + 1) 21 [l0, l1, some (.int y2)] r (σ, sz, k, c) = zk_run E (zk_VT E) M_X11_stuck (C_X11_stuck E) P PX K n 22 [l0, l1, some (.int y2)] (.int y2 :: r) (σ, sz, k, c)) ∧
  (∀ (n : Nat) (l0 l1 l2 : Option Value) (a : Nat) (i : Int32) (r : List Value) (σ : zk_S) (sz k c : Nat), zk_run E (zk_VT E) M_X11_stuck (C_X11_stuck E) P PX K (n + 1) 22 [l0, l1, l2] (.int i :: .ref a :: r) (σ, sz, k, c) = zk_ild (zk_view E σ a) (zk_ar E 0) i (fun x => zk_run E (zk_VT E) M_X11_stuck (C_X11_stuck E) P PX K n 23 [l0, l1, l2] (.int x :: r) (σ, sz, k, c))) ∧
  (∀ (n : Nat) (l0 l1 l2 : Option Value)  (r : List Value) (σ : zk_S) (sz k c : Nat), zk_run E (zk_VT E) M_X11_stuck (C_X11_stuck E) P PX K (n + 1) 23 [l0, l1, l2] r (σ, sz, k, c) = zk_run E (zk_VT E) M_X11_stuck (C_X11_stuck E) P PX K n 25 [l0, l1, l2] (.int ((-2)) :: r) (σ, sz, k, c)) ∧
  (∀ (n : Nat) (l0 l1 l2 : Option Value) (x y : Int32) (r : List Value) (σ : zk_S) (sz k c : Nat), zk_run E (zk_VT E) M_X11_stuck (C_X11_stuck E) P PX K (n + 1) 25 [l0, l1, l2] (.int y :: .int x :: r) (σ, sz, k, c) = ((x = y → zk_run E (zk_VT E) M_X11_stuck (C_X11_stuck E) P PX K n 46 [l0, l1, l2] r (σ, sz, k, c)) ∧ (¬ (x = y) → zk_run E (zk_VT E) M_X11_stuck (C_X11_stuck E) P PX K n 28 [l0, l1, l2] r (σ, sz, k, c)))) ∧
  (∀ (n : Nat) (l1 l2 : Option Value) (y0 : Value) (r : List Value) (σ : zk_S) (sz k c : Nat), zk_run E (zk_VT E) M_X11_stuck (C_X11_stuck E) P PX K (n + 1) 28 [some y0, l1, l2] r (σ, sz, k, c) = (zk_isr y0 ∧ zk_run E (zk_VT E) M_X11_stuck (C_X11_stuck E) P PX K n 29 [some y0, l1, l2] (y0 :: r) (σ, sz, k, c))) ∧
  (∀ (n : Nat) (l0 l1 l2 : Option Value) (a : Nat) (r : List Value) (σ : zk_S) (sz k c : Nat), zk_run E (zk_VT E) M_X11_stuck (C_X11_stuck E) P PX K (n + 1) 29 [l0, l1, l2] (.ref a :: r) (σ, sz, k, c) = zk_fld (zk_view E σ a) [10] 32 (fun v => zk_run E (zk_VT E) M_X11_stuck (C_X11_stuck E) P PX K n 32 [l0, l1, l2] (v :: r) (σ, sz, k, c))) ∧
  (∀ (n : Nat) (l0 l1 : Option Value) (y2 : Int32) (r : List Value) (σ : zk_S) (sz k c : Nat), zk_run E (zk_VT E) M_X11_stuck (C_X11_stuck E) P PX K (n + 1) 32 [l0, l1, some (.int y2)] r (σ, sz, k, c) = zk_run E (zk_VT E) M_X11_stuck (C_X11_stuck E) P PX K n 33 [l0, l1, some (.int y2)] (.int y2 :: r) (σ, sz, k, c)) ∧
  (∀ (n : Nat) (l0 l1 l2 : Option Value) (a : Nat) (i : Int32) (r : List Value) (σ : zk_S) (sz k c : Nat), zk_run E (zk_VT E) M_X11_stuck (C_X11_stuck E) P PX K (n + 1) 33 [l0, l1, l2] (.int i :: .ref a :: r) (σ, sz, k, c) = zk_ild (zk_view E σ a) (zk_ar E 0) i (fun x => zk_run E (zk_VT E) M_X11_stuck (C_X11_stuck E) P PX K n 34 [l0, l1, l2] (.int x :: r) (σ, sz, k, c))) ∧
  (∀ (n : Nat) (l0 l1 l2 : Option Value) (x : Int32) (r : List Value) (σ : zk_S) (sz k c : Nat), zk_run E (zk_VT E) M_X11_stuck (C_X11_stuck E) P PX K (n + 1) 34 [l0, l1, l2] (.int x :: r) (σ, sz, k, c) = ((0 ≤ x → zk_run E (zk_VT E) M_X11_stuck (C_X11_stuck E) P PX K n 46 [l0, l1, l2] r (σ, sz, k, c)) ∧ (¬ (0 ≤ x) → zk_run E (zk_VT E) M_X11_stuck (C_X11_stuck E) P PX K n 37 [l0, l1, l2] r (σ, sz, k, c)))) ∧
  (∀ (n : Nat) (l1 l2 : Option Value) (y0 : Value) (r : List Value) (σ : zk_S) (sz k c : Nat), zk_run E (zk_VT E) M_X11_stuck (C_X11_stuck E) P PX K (n + 1) 37 [some y0, l1, l2] r (σ, sz, k, c) = (zk_isr y0 ∧ zk_run E (zk_VT E) M_X11_stuck (C_X11_stuck E) P PX K n 38 [some y0, l1, l2] (y0 :: r) (σ, sz, k, c))) ∧
  (∀ (n : Nat) (l0 l1 l2 : Option Value) (a : Nat) (r : List Value) (σ : zk_S) (sz k c : Nat), zk_run E (zk_VT E) M_X11_stuck (C_X11_stuck E) P PX K (n + 1) 38 [l0, l1, l2] (.ref a :: r) (σ, sz, k, c) = zk_fld (zk_view E σ a) [10] 8 (fun v => zk_run E (zk_VT E) M_X11_stuck (C_X11_stuck E) P PX K n 41 [l0, l1, l2] (v :: r) (σ, sz, k, c))) ∧
  (∀ (n : Nat) (l0 l1 : Option Value) (y2 : Int32) (r : List Value) (σ : zk_S) (sz k c : Nat), zk_run E (zk_VT E) M_X11_stuck (C_X11_stuck E) P PX K (n + 1) 41 [l0, l1, some (.int y2)] r (σ, sz, k, c) = zk_run E (zk_VT E) M_X11_stuck (C_X11_stuck E) P PX K n 42 [l0, l1, some (.int y2)] (.int y2 :: r) (σ, sz, k, c)) ∧
  (∀ (n : Nat) (l0 l1 l2 : Option Value) (a : Nat) (i : Int32) (r : List Value) (σ : zk_S) (sz k c : Nat), zk_run E (zk_VT E) M_X11_stuck (C_X11_stuck E) P PX K (n + 1) 42 [l0, l1, l2] (.int i :: .ref a :: r) (σ, sz, k, c) = zk_ild (zk_view E σ a) (zk_ar E 0) i (fun x => zk_run E (zk_VT E) M_X11_stuck (C_X11_stuck E) P PX K n 43 [l0, l1, l2] (.int x :: r) (σ, sz, k, c))) ∧
  (∀ (n : Nat) (l0 l1 l2 : Option Value)  (r : List Value) (σ : zk_S) (sz k c : Nat), zk_run E (zk_VT E) M_X11_stuck (C_X11_stuck E) P PX K (n + 1) 43 [l0, l1, l2] r (σ, sz, k, c) = zk_run E (zk_VT E) M_X11_stuck (C_X11_stuck E) P PX K n 47 [l0, l1, l2] r (σ, sz, k, c)) ∧
  (∀ (n : Nat) (l0 l1 l2 : Option Value)  (r : List Value) (σ : zk_S) (sz k c : Nat), zk_run E (zk_VT E) M_X11_stuck (C_X11_stuck E) P PX K (n + 1) 46 [l0, l1, l2] r (σ, sz, k, c) = zk_run E (zk_VT E) M_X11_stuck (C_X11_stuck E) P PX K n 47 [l0, l1, l2] (.int (0) :: r) (σ, sz, k, c)) ∧
  (∀ (n : Nat) (l0 l1 l2 : Option Value) (x y : Int32) (r : List Value) (σ : zk_S) (sz k c : Nat), zk_run E (zk_VT E) M_X11_stuck (C_X11_stuck E) P PX K (n + 1) 47 [l0, l1, l2] (.int y :: .int x :: r) (σ, sz, k, c) = zk_run E (zk_VT E) M_X11_stuck (C_X11_stuck E) P PX K n 48 [l0, l1, l2] (.int (x + y) :: r) (σ, sz, k, c)) ∧
  (∀ (n : Nat) (l0 l1 l2 : Option Value) (x : Int32) (r : List Value) (σ : zk_S) (sz k c : Nat), zk_run E (zk_VT E) M_X11_stuck (C_X11_stuck E) P PX K (n + 1) 48 [l0, l1, l2] (.int x :: r) (σ, sz, k, c) = zk_run E (zk_VT E) M_X11_stuck (C_X11_stuck E) P PX K n 49 [zk_kl l0, some (.int x), l2] r (σ, sz, k, c)) ∧
  (∀ (n : Nat) (l0 l1 : Option Value) (y2 : Int32) (r : List Value) (σ : zk_S) (sz k c : Nat), zk_run E (zk_VT E) M_X11_stuck (C_X11_stuck E) P PX K (n + 1) 49 [l0, l1, some (.int y2)] r (σ, sz, k, c) = zk_run E (zk_VT E) M_X11_stuck (C_X11_stuck E) P PX K n 52 [l0, zk_kl l1, some (.int (y2 + 1))] r (σ, sz, k, c)) ∧
  (∀ (n : Nat) (l0 l1 l2 : Option Value)  (r : List Value) (σ : zk_S) (sz k c : Nat), zk_run E (zk_VT E) M_X11_stuck (C_X11_stuck E) P PX K (n + 1) 52 [l0, l1, l2] r (σ, sz, k, c) = zk_run E (zk_VT E) M_X11_stuck (C_X11_stuck E) P PX K n 8 [l0, l1, l2] r (σ, sz, k, c)) ∧
  (∀ (n : Nat) (l0 l2 : Option Value) (y1 : Int32) (r : List Value) (σ : zk_S) (sz k c : Nat), zk_run E (zk_VT E) M_X11_stuck (C_X11_stuck E) P PX K (n + 1) 55 [l0, some (.int y1), l2] r (σ, sz, k, c) = zk_run E (zk_VT E) M_X11_stuck (C_X11_stuck E) P PX K n 56 [l0, some (.int y1), l2] (.int y1 :: r) (σ, sz, k, c)) ∧
  (∀ (n : Nat) (l0 l1 l2 : Option Value) (x : Int32)  (σ : zk_S) (sz k c : Nat), zk_run E (zk_VT E) M_X11_stuck (C_X11_stuck E) P PX K (n + 1) 56 [l0, l1, l2] [.int x] (σ, sz, k, c) = (zk_nok (some (.int)) x ∧ P (some (.int x)) σ sz ∧ k ≤ 0 ∧ c ≤ 0)) ∧
  (∀ (n : Nat) (l0 l1 l2 : Option Value) (r : List Value) (w : zk_W zk_S), zk_go E (zk_VT E) M_X11_stuck (C_X11_stuck E) P PX K n 0 [l0, l1, l2] r w = zk_run E (zk_VT E) M_X11_stuck (C_X11_stuck E) P PX K (n + 1) 0 [l0, l1, l2] r w) ∧
  (∀ (n : Nat) (l0 l1 : Option Value) (y2 : Int32) (r : List Value) (σ : zk_S) (sz k c : Nat), zk_go E (zk_VT E) M_X11_stuck (C_X11_stuck E) P PX K n 8 [l0, l1, some (.int y2)] r (σ, sz, k, c) = zk_run E (zk_VT E) M_X11_stuck (C_X11_stuck E) P PX K n 9 [l0, l1, some (.int y2)] (.int y2 :: r) (σ, sz, k, c)) := ⟨by intros; rfl, by intros; rfl, by intros; rfl, by intros; rfl, by intros; rfl, by intros; rfl, by intros; rfl, by intros; rfl, by intros; rfl, by intros; rfl, by intros; rfl, by intros; rfl, by intros; rfl, by intros; rfl, by intros; rfl, by intros; rfl, by intros; rfl, by intros; rfl, by intros; rfl, by intros; rfl, by intros; rfl, by intros; rfl, by intros; rfl, by intros; rfl, by intros; rfl, by intros; rfl, by intros; rfl, by intros; rfl, by intros; rfl, by intros; rfl, by intros; rfl, by intros; rfl, by intros; rfl, by intros; rfl, by intros; rfl, by intros; rfl⟩
theorem vc_X11_stuck (E : zk_E) : zk_VC E (zk_VT E) M_X11_stuck (C_X11_stuck E) 3 (sp_X11_stuck E) := by
  intro av σ sz P PX h
  obtain ⟨J, N, Q, O, U⟩ := σ
  unfold sp_X11_stuck at h
  split at h
  case h_2 => exact h.elim
  rename_i a0
  obtain ⟨rfl, h⟩ := h
  refine ⟨Nat.le_of_ble_eq_true rfl, fun G hG => ?_⟩
  change G 0 [some (.ref (zk_ad E 22)), none, none] [] ((J, N, Q, O, U), sz, 0, 0)
  try dsimp only at h
  obtain ⟨hmi, h⟩ := h
  have hms := hmi.1
  (refine hG 900 _ _ _ _ ?_; simp only [r_X11_stuck, zk_kl_none, zk_kl_int, zk_kl_ref, zk_kl_null, zk_kl_long, zk_kl_rf, zk_isr_ref, zk_isr_null, zk_isr_rf9, zk_c1_int, zk_c1_ref, zk_c1_null, zk_c1_rf, zk_psh_some, zk_psh_none, zk_nok_int, zk_nok_bool0, zk_nok_bool1, zk_nok_b, zk_fok_0, zk_fok_1, zk_fok_2, zk_fok_n, zk_fok_rf, zb_f, zb_p, zb_i, zb_a, zb_s, zk_nth_0, zk_nth_s, zk_fld_o, zk_put_o, zk_rv_eq, zk_ri_eq, zk_is_o, List.mem_cons, List.not_mem_nil, or_false, false_or, or_true, true_or, and_true, true_and, not_false_iff, not_true_eq_false, true_implies, false_implies, imp_self, implies_true, forall_const, zk_lit, zk_uj_ap, zk_un_ap, zk_un_un, zk_uj_uj, Nat.reduceEqDiff, eq_self, zk_bq, Bool.true_or, Bool.false_or, Nat.le_refl, Nat.zero_add, Nat.add_zero, Nat.reduceAdd, Nat.reduceLeDiff, Nat.le_zero_eq, and_self, and_false, false_and, ite_true, ite_false, Nat.zero_le, List.length_cons, List.length_nil, Option.some.injEq, forall_eq', reduceCtorEq, spe_X11_solve])
  refine ⟨hmi, fun J2 N2 hso => ?_⟩
  have es := hso.2.1.es
  have hms2 := es.ms hms
  have hsv := hso.sv
  have h2 := h J2 N2 hso
  rw [← es.stuck] at h2
  clear h hso
  have hnr := hms2.1.1
  have hnr20 := hms2.1.2
  have loop : ∀ m r, r + m = m_nr J2 → G 8 [some (.ref (zk_ad E 22)), some (.int (m_sum (g_st J2 N2) r)), some (.int (nI r))] [] ((J2, N2, Q, O, U), sz, 0, 0) := by
    intro m
    induction m with
    | zero =>
      intro r hr
      have c1 : nI (m_nr J2) ≤ nI r := nI_le (by omega) (by omega)
      rw [show r = m_nr J2 by omega] at c1 ⊢
      (refine hG 900 _ _ _ _ ?_; simp only [r_X11_stuck, zk_kl_none, zk_kl_int, zk_kl_ref, zk_kl_null, zk_kl_long, zk_kl_rf, zk_isr_ref, zk_isr_null, zk_isr_rf9, zk_c1_int, zk_c1_ref, zk_c1_null, zk_c1_rf, zk_psh_some, zk_psh_none, zk_nok_int, zk_nok_bool0, zk_nok_bool1, zk_nok_b, zk_fok_0, zk_fok_1, zk_fok_2, zk_fok_n, zk_fok_rf, zb_f, zb_p, zb_i, zb_a, zb_s, zk_nth_0, zk_nth_s, zk_fld_o, zk_put_o, zk_rv_eq, zk_ri_eq, zk_is_o, List.mem_cons, List.not_mem_nil, or_false, false_or, or_true, true_or, and_true, true_and, not_false_iff, not_true_eq_false, true_implies, false_implies, imp_self, implies_true, forall_const, zk_lit, zk_uj_ap, zk_un_ap, zk_un_un, zk_uj_uj, Nat.reduceEqDiff, eq_self, zk_bq, Bool.true_or, Bool.false_or, Nat.le_refl, Nat.zero_add, Nat.add_zero, Nat.reduceAdd, Nat.reduceLeDiff, Nat.le_zero_eq, and_self, and_false, false_and, ite_true, ite_false, Nat.zero_le, List.length_cons, List.length_nil, Option.some.injEq, forall_eq', reduceCtorEq, hnr, c1])
      exact h2
    | succ m ih =>
      intro r hr
      have c1 : ¬ nI (m_nr J2) ≤ nI r := nI_ge (by omega) (by omega)
      have hin : vp_in (nI r) 20 := n_in (by omega) (by decide)
      have hcl : (nI r).toNatClampNeg = r := n_cl (by omega)
      have ih2 := ih (r + 1) (by omega)
      rw [m_sum, g_st] at ih2
      by_cases q1 : N2 23 r = -2
      · rw [if_neg (fun w => w.1 q1), Int32.add_zero] at ih2
        (refine hG 900 _ _ _ _ ?_; simp only [r_X11_stuck, zk_kl_none, zk_kl_int, zk_kl_ref, zk_kl_null, zk_kl_long, zk_kl_rf, zk_isr_ref, zk_isr_null, zk_isr_rf9, zk_c1_int, zk_c1_ref, zk_c1_null, zk_c1_rf, zk_psh_some, zk_psh_none, zk_nok_int, zk_nok_bool0, zk_nok_bool1, zk_nok_b, zk_fok_0, zk_fok_1, zk_fok_2, zk_fok_n, zk_fok_rf, zb_f, zb_p, zb_i, zb_a, zb_s, zk_nth_0, zk_nth_s, zk_fld_o, zk_put_o, zk_rv_eq, zk_ri_eq, zk_is_o, List.mem_cons, List.not_mem_nil, or_false, false_or, or_true, true_or, and_true, true_and, not_false_iff, not_true_eq_false, true_implies, false_implies, imp_self, implies_true, forall_const, zk_lit, zk_uj_ap, zk_un_ap, zk_un_un, zk_uj_uj, Nat.reduceEqDiff, eq_self, zk_bq, Bool.true_or, Bool.false_or, Nat.le_refl, Nat.zero_add, Nat.add_zero, Nat.reduceAdd, Nat.reduceLeDiff, Nat.le_zero_eq, and_self, and_false, false_and, ite_true, ite_false, Nat.zero_le, List.length_cons, List.length_nil, Option.some.injEq, forall_eq', reduceCtorEq, hnr, c1, hin, hcl, q1, n_succ, Int32.add_zero])
        exact ih2
      · have h50 := (hsv.2.2 r (by omega)).2.2
        have hd := g_deep_lt0 J2 N2 r
        by_cases q2 : g_deep J2 N2 r = -1
        · rw [if_pos ⟨q1, q2⟩] at ih2
          rw [q2] at h50
          have cm : ¬ (0 : Int32) ≤ -1 := by decide
          (refine hG 900 _ _ _ _ ?_; simp only [r_X11_stuck, zk_kl_none, zk_kl_int, zk_kl_ref, zk_kl_null, zk_kl_long, zk_kl_rf, zk_isr_ref, zk_isr_null, zk_isr_rf9, zk_c1_int, zk_c1_ref, zk_c1_null, zk_c1_rf, zk_psh_some, zk_psh_none, zk_nok_int, zk_nok_bool0, zk_nok_bool1, zk_nok_b, zk_fok_0, zk_fok_1, zk_fok_2, zk_fok_n, zk_fok_rf, zb_f, zb_p, zb_i, zb_a, zb_s, zk_nth_0, zk_nth_s, zk_fld_o, zk_put_o, zk_rv_eq, zk_ri_eq, zk_is_o, List.mem_cons, List.not_mem_nil, or_false, false_or, or_true, true_or, and_true, true_and, not_false_iff, not_true_eq_false, true_implies, false_implies, imp_self, implies_true, forall_const, zk_lit, zk_uj_ap, zk_un_ap, zk_un_un, zk_uj_uj, Nat.reduceEqDiff, eq_self, zk_bq, Bool.true_or, Bool.false_or, Nat.le_refl, Nat.zero_add, Nat.add_zero, Nat.reduceAdd, Nat.reduceLeDiff, Nat.le_zero_eq, and_self, and_false, false_and, ite_true, ite_false, Nat.zero_le, List.length_cons, List.length_nil, Option.some.injEq, forall_eq', reduceCtorEq, hnr, c1, hin, hcl, q1, h50, cm, n_succ])
          exact ih2
        · rw [if_neg (fun w => q2 w.2), Int32.add_zero] at ih2
          have cm : (0 : Int32) ≤ g_deep J2 N2 r := by rw [n_ge0, hd]; exact q2
          (refine hG 900 _ _ _ _ ?_; simp only [r_X11_stuck, zk_kl_none, zk_kl_int, zk_kl_ref, zk_kl_null, zk_kl_long, zk_kl_rf, zk_isr_ref, zk_isr_null, zk_isr_rf9, zk_c1_int, zk_c1_ref, zk_c1_null, zk_c1_rf, zk_psh_some, zk_psh_none, zk_nok_int, zk_nok_bool0, zk_nok_bool1, zk_nok_b, zk_fok_0, zk_fok_1, zk_fok_2, zk_fok_n, zk_fok_rf, zb_f, zb_p, zb_i, zb_a, zb_s, zk_nth_0, zk_nth_s, zk_fld_o, zk_put_o, zk_rv_eq, zk_ri_eq, zk_is_o, List.mem_cons, List.not_mem_nil, or_false, false_or, or_true, true_or, and_true, true_and, not_false_iff, not_true_eq_false, true_implies, false_implies, imp_self, implies_true, forall_const, zk_lit, zk_uj_ap, zk_un_ap, zk_un_un, zk_uj_uj, Nat.reduceEqDiff, eq_self, zk_bq, Bool.true_or, Bool.false_or, Nat.le_refl, Nat.zero_add, Nat.add_zero, Nat.reduceAdd, Nat.reduceLeDiff, Nat.le_zero_eq, and_self, and_false, false_and, ite_true, ite_false, Nat.zero_le, List.length_cons, List.length_nil, Option.some.injEq, forall_eq', reduceCtorEq, hnr, c1, hin, hcl, q1, h50, cm, n_succ, Int32.add_zero])
          exact ih2
  exact loop (m_nr J2) 0 (by omega)
theorem ct_X11_stuck {l : Launch} (hl : l.stackTraces = false) (E : zk_E) : zk_C l E (zk_VT E) yX11_stuck cX11_stuck 3 (some (.int)) rm_X11_stuck (sp_X11_stuck E) := by
  refine zk_meth (M := M_X11_stuck) (C := C_X11_stuck E) hl (by decide +kernel) rfl (fun _ _ => rfl) (zk_VT_ok E) MO_X11_stuck TO_X11_stuck THo_X11_stuck ?_ (vc_X11_stuck E)
  exact fun p e s m args below meth c X pc n mc ms sp2 h => by
    have h2 := zk_lka_mem h
    simp only [List.mem_cons, List.not_mem_nil, or_false, Prod.mk.injEq] at h2
    rcases h2 with ⟨rfl, rfl, rfl, rfl, rfl⟩
    exact zk_coV (idx := 227) X (ct_X11_solve hl E) (List.forall_mem_cons.mpr ⟨zk_wi 1227 (by decide +kernel) rfl, List.forall_mem_cons.mpr ⟨zk_wi 1229 (by decide +kernel) rfl, List.forall_mem_cons.mpr ⟨zk_wp 24 (by decide +kernel) rfl, List.forall_mem_cons.mpr ⟨zk_wi 6 (by decide +kernel) rfl, List.forall_mem_cons.mpr ⟨zk_wi 1230 (by decide +kernel) rfl, fun _ h => absurd h List.not_mem_nil⟩⟩⟩⟩⟩) (fun ci h => by
      have h := Nat.eq_of_beq_eq_true h
      subst h
      exact ⟨_, _, rfl⟩) (by decide +kernel) ⟨by decide, by decide, by decide +kernel⟩ ⟨by decide, by decide⟩
/-- a door shut, or opened -/
def m_tgl (N : Nat → Nat → Int32) (d : Nat) : Nat → Nat → Int32 := zk_un N 36 (upd (N 36) d (if N 36 d = 0 then 1 else 0))
theorem MI.shut {J N : Nat → Nat → Int32} (hm : MI J N) {d : Nat} {x : Int32} (hd : d < m_nd J) (hx : x = 0 ∨ x = 1) : MI J (zk_un N 36 (upd (N 36) d x)) := by
  obtain ⟨h1, h2, h3, h4, h5, h6, h7⟩ := hm
  refine ⟨h1, h2, fun q hq => ?_, h4, h5, h6, fun q hq hq2 => ?_⟩
  · obtain ⟨a1, a2, a3, a4, a5, a6⟩ := h3 q hq
    refine ⟨a1, a2, a3, a4, a5, ?_⟩
    show upd (N 36) d x q = 0 ∨ upd (N 36) d x q = 1
    unfold upd
    split
    · exact hx
    · exact a6
  · show upd (N 36) d x q = 0
    rw [upd_ne _ _ (by omega)]
    exact h7 q hq hq2
theorem MI.tgl {J N : Nat → Nat → Int32} (hm : MI J N) {d : Nat} (hd : d < m_nd J) : MI J (m_tgl N d) := hm.shut hd (by split <;> simp)
/-- shut and opened again -/
theorem QE.back {J J2 N N2 : Nat → Nat → Int32} {t : Int32} {d : Nat} {x : Int32} (h : QE J J2 (zk_un N 36 (upd (N 36) d x)) N2 t) : QE J (J2) N (zk_un N2 36 (upd (N2 36) d (N 36 d))) t := by
  obtain ⟨⟨h1, h2⟩, h3⟩ := h
  refine ⟨⟨h1, fun o ho => ?_⟩, h3⟩
  unfold zk_un
  split
  · next q =>
    subst q
    rw [h2 36 ho, zk_un_ap, if_pos rfl, upd_upd]
    funext k
    unfold upd
    split
    · next w => rw [w]
    · rfl
  · next q =>
    rw [h2 o ho, zk_un_ap, if_neg q]
def sp_X11_faultsWith (E : zk_E) : zk_Sp zk_S := fun av σ sz P PX => match av with
  | [.ref a, .int r] => a = zk_ad E 22 ∧ MI σ.1 σ.2.1 ∧ DRD σ.1 σ.2.1 r (fun j => ZQ σ sz 0 (some (.int (nI (a_faults σ.1 (m_tgl σ.2.1 j))))) P) (ZQ σ sz 1 (some (.int 0)) P)
  | _ => False
theorem spe_X11_faultsWith (E : zk_E) (a : Nat) (r : Int32) (σ : zk_S) (sz : Nat) (P : zk_P zk_S) (PX : zk_X zk_S) : sp_X11_faultsWith E [.ref a, .int r] σ sz P PX = (a = zk_ad E 22 ∧ MI σ.1 σ.2.1 ∧ DRD σ.1 σ.2.1 r (fun j => ZQ σ sz 0 (some (.int (nI (a_faults σ.1 (m_tgl σ.2.1 j))))) P) (ZQ σ sz 1 (some (.int 0)) P)) := propext Iff.rfl
def C_X11_faultsWith (E : zk_E) : zk_Cl zk_S := zk_lka [(7, 2, 0, 0, zk_rv (zk_VT E) (fun ci => Nat.beq ci 10) (sp_X11_isDoor E)), (15, 2, 0, 0, zk_rv (zk_VT E) (fun ci => Nat.beq ci 10) (sp_X11_no E)), (40, 1, 0, 0, zk_rv (zk_VT E) (fun ci => Nat.beq ci 10) (sp_X11_faultsNow E))]
theorem r_X11_faultsWith (E : zk_E) (P : zk_P zk_S) (PX : zk_X zk_S) (K : Nat → zk_L → List Value → zk_W zk_S → Prop) : (∀ (n : Nat) (l1 l2 : Option Value) (y0 : Value) (r : List Value) (σ : zk_S) (sz k c : Nat), zk_run E (zk_VT E) M_X11_faultsWith (C_X11_faultsWith E) P PX K (n + 1) 0 [some y0, l1, l2] r (σ, sz, k, c) = (zk_isr y0 ∧ zk_run E (zk_VT E) M_X11_faultsWith (C_X11_faultsWith E) P PX K n 1 [some y0, l1, l2] (y0 :: r) (σ, sz, k, c))) ∧
  (∀ (n : Nat) (l0 l1 l2 : Option Value)  (r : List Value) (σ : zk_S) (sz k c : Nat), zk_run E (zk_VT E) M_X11_faultsWith (C_X11_faultsWith E) P PX K (n + 1) 1 [l0, l1, l2] r (σ, sz, k, c) = zk_run E (zk_VT E) M_X11_faultsWith (C_X11_faultsWith E) P PX K n 2 [l0, l1, l2] (.int (0) :: r) (σ, sz, k, c)) ∧
  (∀ (n : Nat) (l0 l1 l2 : Option Value) (a : Nat) (v : Value) (r : List Value) (σ : zk_S) (sz k c : Nat), zk_run E (zk_VT E) M_X11_faultsWith (C_X11_faultsWith E) P PX K (n + 1) 2 [l0, l1, l2] (v :: .ref a :: r) (σ, sz, k, c) = zk_put (zk_view E σ a) [10] 0 0 v (zk_pfok E σ a 0 v ∧ zk_run E (zk_VT E) M_X11_faultsWith (C_X11_faultsWith E) P PX K n 5 [l0, l1, l2] r (zk_pf E σ a 0 v, sz, k, c))) ∧
  (∀ (n : Nat) (l1 l2 : Option Value) (y0 : Value) (r : List Value) (σ : zk_S) (sz k c : Nat), zk_run E (zk_VT E) M_X11_faultsWith (C_X11_faultsWith E) P PX K (n + 1) 5 [some y0, l1, l2] r (σ, sz, k, c) = (zk_isr y0 ∧ zk_run E (zk_VT E) M_X11_faultsWith (C_X11_faultsWith E) P PX K n 6 [some y0, l1, l2] (y0 :: r) (σ, sz, k, c))) ∧
  (∀ (n : Nat) (l0 l2 : Option Value) (y1 : Int32) (r : List Value) (σ : zk_S) (sz k c : Nat), zk_run E (zk_VT E) M_X11_faultsWith (C_X11_faultsWith E) P PX K (n + 1) 6 [l0, some (.int y1), l2] r (σ, sz, k, c) = zk_run E (zk_VT E) M_X11_faultsWith (C_X11_faultsWith E) P PX K n 7 [l0, some (.int y1), l2] (.int y1 :: r) (σ, sz, k, c)) ∧
  (∀ (n : Nat) (l0 l1 l2 : Option Value) (v0 : Value) (v1 : Value)  (σ : zk_S) (sz k c : Nat), zk_run E (zk_VT E) M_X11_faultsWith (C_X11_faultsWith E) P PX K (n + 1) 7 [l0, l1, l2] [v0, v1] (σ, sz, k, c) = (k + 0 ≤ 0 ∧ c + 0 ≤ 0 ∧ (zk_rv (zk_VT E) (fun ci => Nat.beq ci 10) (sp_X11_isDoor E)) [v1, v0] σ sz (fun v s2 z2 => zk_run E (zk_VT E) M_X11_faultsWith (C_X11_faultsWith E) P PX K n 10 [l0, l1, l2] (zk_psh v []) (s2, z2, k + 0, c + 0)) (fun X s2 z2 => PX X s2 z2))) ∧
  (∀ (n : Nat) (l0 l1 l2 : Option Value) (x : Int32) (r : List Value) (σ : zk_S) (sz k c : Nat), zk_run E (zk_VT E) M_X11_faultsWith (C_X11_faultsWith E) P PX K (n + 1) 10 [l0, l1, l2] (.int x :: r) (σ, sz, k, c) = ((¬ x = 0 → zk_run E (zk_VT E) M_X11_faultsWith (C_X11_faultsWith E) P PX K n 19 [l0, l1, l2] r (σ, sz, k, c)) ∧ (¬ (¬ x = 0) → zk_run E (zk_VT E) M_X11_faultsWith (C_X11_faultsWith E) P PX K n 13 [l0, l1, l2] r (σ, sz, k, c)))) ∧
  (∀ (n : Nat) (l1 l2 : Option Value) (y0 : Value) (r : List Value) (σ : zk_S) (sz k c : Nat), zk_run E (zk_VT E) M_X11_faultsWith (C_X11_faultsWith E) P PX K (n + 1) 13 [some y0, l1, l2] r (σ, sz, k, c) = (zk_isr y0 ∧ zk_run E (zk_VT E) M_X11_faultsWith (C_X11_faultsWith E) P PX K n 14 [some y0, l1, l2] (y0 :: r) (σ, sz, k, c))) ∧
  (∀ (n : Nat) (l0 l1 l2 : Option Value)  (r : List Value) (σ : zk_S) (sz k c : Nat), zk_run E (zk_VT E) M_X11_faultsWith (C_X11_faultsWith E) P PX K (n + 1) 14 [l0, l1, l2] r (σ, sz, k, c) = zk_run E (zk_VT E) M_X11_faultsWith (C_X11_faultsWith E) P PX K n 15 [l0, l1, l2] (.int (1) :: r) (σ, sz, k, c)) ∧
  (∀ (n : Nat) (l0 l1 l2 : Option Value) (v0 : Value) (v1 : Value)  (σ : zk_S) (sz k c : Nat), zk_run E (zk_VT E) M_X11_faultsWith (C_X11_faultsWith E) P PX K (n + 1) 15 [l0, l1, l2] [v0, v1] (σ, sz, k, c) = (k + 0 ≤ 0 ∧ c + 0 ≤ 0 ∧ (zk_rv (zk_VT E) (fun ci => Nat.beq ci 10) (sp_X11_no E)) [v1, v0] σ sz (fun v s2 z2 => zk_run E (zk_VT E) M_X11_faultsWith (C_X11_faultsWith E) P PX K n 18 [l0, l1, l2] (zk_psh v []) (s2, z2, k + 0, c + 0)) (fun X s2 z2 => PX X s2 z2))) ∧
  (∀ (n : Nat) (l0 l1 l2 : Option Value) (x : Int32)  (σ : zk_S) (sz k c : Nat), zk_run E (zk_VT E) M_X11_faultsWith (C_X11_faultsWith E) P PX K (n + 1) 18 [l0, l1, l2] [.int x] (σ, sz, k, c) = (zk_nok (some (.int)) x ∧ P (some (.int x)) σ sz ∧ k ≤ 0 ∧ c ≤ 0)) ∧
  (∀ (n : Nat) (l1 l2 : Option Value) (y0 : Value) (r : List Value) (σ : zk_S) (sz k c : Nat), zk_run E (zk_VT E) M_X11_faultsWith (C_X11_faultsWith E) P PX K (n + 1) 19 [some y0, l1, l2] r (σ, sz, k, c) = (zk_isr y0 ∧ zk_run E (zk_VT E) M_X11_faultsWith (C_X11_faultsWith E) P PX K n 20 [some y0, l1, l2] (y0 :: r) (σ, sz, k, c))) ∧
  (∀ (n : Nat) (l0 l1 l2 : Option Value) (a : Nat) (r : List Value) (σ : zk_S) (sz k c : Nat), zk_run E (zk_VT E) M_X11_faultsWith (C_X11_faultsWith E) P PX K (n + 1) 20 [l0, l1, l2] (.ref a :: r) (σ, sz, k, c) = zk_fld (zk_view E σ a) [10] 16 (fun v => zk_run E (zk_VT E) M_X11_faultsWith (C_X11_faultsWith E) P PX K n 23 [l0, l1, l2] (v :: r) (σ, sz, k, c))) ∧
  (∀ (n : Nat) (l0 l2 : Option Value) (y1 : Int32) (r : List Value) (σ : zk_S) (sz k c : Nat), zk_run E (zk_VT E) M_X11_faultsWith (C_X11_faultsWith E) P PX K (n + 1) 23 [l0, some (.int y1), l2] r (σ, sz, k, c) = zk_run E (zk_VT E) M_X11_faultsWith (C_X11_faultsWith E) P PX K n 24 [l0, some (.int y1), l2] (.int y1 :: r) (σ, sz, k, c)) ∧
  (∀ (n : Nat) (l1 l2 : Option Value) (y0 : Value) (r : List Value) (σ : zk_S) (sz k c : Nat), zk_run E (zk_VT E) M_X11_faultsWith (C_X11_faultsWith E) P PX K (n + 1) 24 [some y0, l1, l2] r (σ, sz, k, c) = (zk_isr y0 ∧ zk_run E (zk_VT E) M_X11_faultsWith (C_X11_faultsWith E) P PX K n 25 [some y0, l1, l2] (y0 :: r) (σ, sz, k, c))) ∧
  (∀ (n : Nat) (l0 l1 l2 : Option Value) (a : Nat) (r : List Value) (σ : zk_S) (sz k c : Nat), zk_run E (zk_VT E) M_X11_faultsWith (C_X11_faultsWith E) P PX K (n + 1) 25 [l0, l1, l2] (.ref a :: r) (σ, sz, k, c) = zk_fld (zk_view E σ a) [10] 16 (fun v => zk_run E (zk_VT E) M_X11_faultsWith (C_X11_faultsWith E) P PX K n 28 [l0, l1, l2] (v :: r) (σ, sz, k, c))) ∧
  (∀ (n : Nat) (l0 l2 : Option Value) (y1 : Int32) (r : List Value) (σ : zk_S) (sz k c : Nat), zk_run E (zk_VT E) M_X11_faultsWith (C_X11_faultsWith E) P PX K (n + 1) 28 [l0, some (.int y1), l2] r (σ, sz, k, c) = zk_run E (zk_VT E) M_X11_faultsWith (C_X11_faultsWith E) P PX K n 29 [l0, some (.int y1), l2] (.int y1 :: r) (σ, sz, k, c)) ∧
  (∀ (n : Nat) (l0 l1 l2 : Option Value) (a : Nat) (i : Int32) (r : List Value) (σ : zk_S) (sz k c : Nat), zk_run E (zk_VT E) M_X11_faultsWith (C_X11_faultsWith E) P PX K (n + 1) 29 [l0, l1, l2] (.int i :: .ref a :: r) (σ, sz, k, c) = zk_ild (zk_view E σ a) (zk_ar E 1) i (fun x => zk_run E (zk_VT E) M_X11_faultsWith (C_X11_faultsWith E) P PX K n 30 [l0, l1, l2] (.int x :: r) (σ, sz, k, c))) ∧
  (∀ (n : Nat) (l0 l1 l2 : Option Value) (x : Int32) (r : List Value) (σ : zk_S) (sz k c : Nat), zk_run E (zk_VT E) M_X11_faultsWith (C_X11_faultsWith E) P PX K (n + 1) 30 [l0, l1, l2] (.int x :: r) (σ, sz, k, c) = ((¬ x = 0 → zk_run E (zk_VT E) M_X11_faultsWith (C_X11_faultsWith E) P PX K n 37 [l0, l1, l2] r (σ, sz, k, c)) ∧ (¬ (¬ x = 0) → zk_run E (zk_VT E) M_X11_faultsWith (C_X11_faultsWith E) P PX K n 33 [l0, l1, l2] r (σ, sz, k, c)))) ∧
  (∀ (n : Nat) (l0 l1 l2 : Option Value)  (r : List Value) (σ : zk_S) (sz k c : Nat), zk_run E (zk_VT E) M_X11_faultsWith (C_X11_faultsWith E) P PX K (n + 1) 33 [l0, l1, l2] r (σ, sz, k, c) = zk_run E (zk_VT E) M_X11_faultsWith (C_X11_faultsWith E) P PX K n 34 [l0, l1, l2] (.int (1) :: r) (σ, sz, k, c)) ∧
  (∀ (n : Nat) (l0 l1 l2 : Option Value)  (r : List Value) (σ : zk_S) (sz k c : Nat), zk_run E (zk_VT E) M_X11_faultsWith (C_X11_faultsWith E) P PX K (n + 1) 34 [l0, l1, l2] r (σ, sz, k, c) = zk_run E (zk_VT E) M_X11_faultsWith (C_X11_faultsWith E) P PX K n 38 [l0, l1, l2] r (σ, sz, k, c)) ∧
  (∀ (n : Nat) (l0 l1 l2 : Option Value)  (r : List Value) (σ : zk_S) (sz k c : Nat), zk_run E (zk_VT E) M_X11_faultsWith (C_X11_faultsWith E) P PX K (n + 1) 37 [l0, l1, l2] r (σ, sz, k, c) = zk_run E (zk_VT E) M_X11_faultsWith (C_X11_faultsWith E) P PX K n 38 [l0, l1, l2] (.int (0) :: r) (σ, sz, k, c)) ∧
  (∀ (n : Nat) (l0 l1 l2 : Option Value) (a : Nat) (i x : Int32) (r : List Value) (σ : zk_S) (sz k c : Nat), zk_run E (zk_VT E) M_X11_faultsWith (C_X11_faultsWith E) P PX K (n + 1) 38 [l0, l1, l2] (.int x :: .int i :: .ref a :: r) (σ, sz, k, c) = zk_ist (zk_view E σ a) (zk_ar E 1) i (vp_nar .boolean x) (fun e => zk_wrok E σ a e ∧ zk_run E (zk_VT E) M_X11_faultsWith (C_X11_faultsWith E) P PX K n 39 [l0, l1, l2] r (zk_wr E σ a e, sz, k, c))) ∧
  (∀ (n : Nat) (l1 l2 : Option Value) (y0 : Value) (r : List Value) (σ : zk_S) (sz k c : Nat), zk_run E (zk_VT E) M_X11_faultsWith (C_X11_faultsWith E) P PX K (n + 1) 39 [some y0, l1, l2] r (σ, sz, k, c) = (zk_isr y0 ∧ zk_run E (zk_VT E) M_X11_faultsWith (C_X11_faultsWith E) P PX K n 40 [some y0, l1, l2] (y0 :: r) (σ, sz, k, c))) ∧
  (∀ (n : Nat) (l0 l1 l2 : Option Value) (v0 : Value)  (σ : zk_S) (sz k c : Nat), zk_run E (zk_VT E) M_X11_faultsWith (C_X11_faultsWith E) P PX K (n + 1) 40 [l0, l1, l2] [v0] (σ, sz, k, c) = (k + 0 ≤ 0 ∧ c + 0 ≤ 0 ∧ (zk_rv (zk_VT E) (fun ci => Nat.beq ci 10) (sp_X11_faultsNow E)) [v0] σ sz (fun v s2 z2 => zk_run E (zk_VT E) M_X11_faultsWith (C_X11_faultsWith E) P PX K n 43 [l0, l1, l2] (zk_psh v []) (s2, z2, k + 0, c + 0)) (fun X s2 z2 => PX X s2 z2))) ∧
  (∀ (n : Nat) (l0 l1 l2 : Option Value) (x : Int32) (r : List Value) (σ : zk_S) (sz k c : Nat), zk_run E (zk_VT E) M_X11_faultsWith (C_X11_faultsWith E) P PX K (n + 1) 43 [l0, l1, l2] (.int x :: r) (σ, sz, k, c) = zk_run E (zk_VT E) M_X11_faultsWith (C_X11_faultsWith E) P PX K n 44 [l0, zk_kl l1, some (.int x)] r (σ, sz, k, c)) ∧
  (∀ (n : Nat) (l1 l2 : Option Value) (y0 : Value) (r : List Value) (σ : zk_S) (sz k c : Nat), zk_run E (zk_VT E) M_X11_faultsWith (C_X11_faultsWith E) P PX K (n + 1) 44 [some y0, l1, l2] r (σ, sz, k, c) = (zk_isr y0 ∧ zk_run E (zk_VT E) M_X11_faultsWith (C_X11_faultsWith E) P PX K n 45 [some y0, l1, l2] (y0 :: r) (σ, sz, k, c))) ∧
  (∀ (n : Nat) (l0 l1 l2 : Option Value) (a : Nat) (r : List Value) (σ : zk_S) (sz k c : Nat), zk_run E (zk_VT E) M_X11_faultsWith (C_X11_faultsWith E) P PX K (n + 1) 45 [l0, l1, l2] (.ref a :: r) (σ, sz, k, c) = zk_fld (zk_view E σ a) [10] 16 (fun v => zk_run E (zk_VT E) M_X11_faultsWith (C_X11_faultsWith E) P PX K n 48 [l0, l1, l2] (v :: r) (σ, sz, k, c))) ∧
  (∀ (n : Nat) (l0 l2 : Option Value) (y1 : Int32) (r : List Value) (σ : zk_S) (sz k c : Nat), zk_run E (zk_VT E) M_X11_faultsWith (C_X11_faultsWith E) P PX K (n + 1) 48 [l0, some (.int y1), l2] r (σ, sz, k, c) = zk_run E (zk_VT E) M_X11_faultsWith (C_X11_faultsWith E) P PX K n 49 [l0, some (.int y1), l2] (.int y1 :: r) (σ, sz, k, c)) ∧
  (∀ (n : Nat) (l1 l2 : Option Value) (y0 : Value) (r : List Value) (σ : zk_S) (sz k c : Nat), zk_run E (zk_VT E) M_X11_faultsWith (C_X11_faultsWith E) P PX K (n + 1) 49 [some y0, l1, l2] r (σ, sz, k, c) = (zk_isr y0 ∧ zk_run E (zk_VT E) M_X11_faultsWith (C_X11_faultsWith E) P PX K n 50 [some y0, l1, l2] (y0 :: r) (σ, sz, k, c))) ∧
  (∀ (n : Nat) (l0 l1 l2 : Option Value) (a : Nat) (r : List Value) (σ : zk_S) (sz k c : Nat), zk_run E (zk_VT E) M_X11_faultsWith (C_X11_faultsWith E) P PX K (n + 1) 50 [l0, l1, l2] (.ref a :: r) (σ, sz, k, c) = zk_fld (zk_view E σ a) [10] 16 (fun v => zk_run E (zk_VT E) M_X11_faultsWith (C_X11_faultsWith E) P PX K n 53 [l0, l1, l2] (v :: r) (σ, sz, k, c))) ∧
  (∀ (n : Nat) (l0 l2 : Option Value) (y1 : Int32) (r : List Value) (σ : zk_S) (sz k c : Nat), zk_run E (zk_VT E) M_X11_faultsWith (C_X11_faultsWith E) P PX K (n + 1) 53 [l0, some (.int y1), l2] r (σ, sz, k, c) = zk_run E (zk_VT E) M_X11_faultsWith (C_X11_faultsWith E) P PX K n 54 [l0, some (.int y1), l2] (.int y1 :: r) (σ, sz, k, c)) ∧
  (∀ (n : Nat) (l0 l1 l2 : Option Value) (a : Nat) (i : Int32) (r : List Value) (σ : zk_S) (sz k c : Nat), zk_run E (zk_VT E) M_X11_faultsWith (C_X11_faultsWith E) P PX K (n + 1) 54 [l0, l1, l2] (.int i :: .ref a :: r) (σ, sz, k, c) = zk_ild (zk_view E σ a) (zk_ar E 1) i (fun x => zk_run E (zk_VT E) M_X11_faultsWith (C_X11_faultsWith E) P PX K n 55 [l0, l1, l2] (.int x :: r) (σ, sz, k, c))) ∧
  (∀ (n : Nat) (l0 l1 l2 : Option Value) (x : Int32) (r : List Value) (σ : zk_S) (sz k c : Nat), zk_run E (zk_VT E) M_X11_faultsWith (C_X11_faultsWith E) P PX K (n + 1) 55 [l0, l1, l2] (.int x :: r) (σ, sz, k, c) = ((¬ x = 0 → zk_run E (zk_VT E) M_X11_faultsWith (C_X11_faultsWith E) P PX K n 62 [l0, l1, l2] r (σ, sz, k, c)) ∧ (¬ (¬ x = 0) → zk_run E (zk_VT E) M_X11_faultsWith (C_X11_faultsWith E) P PX K n 58 [l0, l1, l2] r (σ, sz, k, c)))) ∧
  (∀ (n : Nat) (l0 l1 l2 : Option Value)  (r : List Value) (σ : zk_S) (sz k c : Nat), zk_run E (zk_VT E) M_X11_faultsWith (C_X11_faultsWith E) P PX K (n + 1) 58 [l0, l1, l2] r (σ, sz, k, c) = zk_run E (zk_VT E) M_X11_faultsWith (C_X11_faultsWith E) P PX K n 59 [l0, l1, l2] (.int (1) :: r) (σ, sz, k, c)) ∧
  (∀ (n : Nat) (l0 l1 l2 : Option Value)  (r : List Value) (σ : zk_S) (sz k c : Nat), zk_run E (zk_VT E) M_X11_faultsWith (C_X11_faultsWith E) P PX K (n + 1) 59 [l0, l1, l2] r (σ, sz, k, c) = zk_run E (zk_VT E) M_X11_faultsWith (C_X11_faultsWith E) P PX K n 63 [l0, l1, l2] r (σ, sz, k, c)) ∧
  (∀ (n : Nat) (l0 l1 l2 : Option Value)  (r : List Value) (σ : zk_S) (sz k c : Nat), zk_run E (zk_VT E) M_X11_faultsWith (C_X11_faultsWith E) P PX K (n + 1) 62 [l0, l1, l2] r (σ, sz, k, c) = zk_run E (zk_VT E) M_X11_faultsWith (C_X11_faultsWith E) P PX K n 63 [l0, l1, l2] (.int (0) :: r) (σ, sz, k, c)) ∧
  (∀ (n : Nat) (l0 l1 l2 : Option Value) (a : Nat) (i x : Int32) (r : List Value) (σ : zk_S) (sz k c : Nat), zk_run E (zk_VT E) M_X11_faultsWith (C_X11_faultsWith E) P PX K (n + 1) 63 [l0, l1, l2] (.int x :: .int i :: .ref a :: r) (σ, sz, k, c) = zk_ist (zk_view E σ a) (zk_ar E 1) i (vp_nar .boolean x) (fun e => zk_wrok E σ a e ∧ zk_run E (zk_VT E) M_X11_faultsWith (C_X11_faultsWith E) P PX K n 64 [l0, l1, l2] r (zk_wr E σ a e, sz, k, c))) ∧
  (∀ (n : Nat) (l0 l1 : Option Value) (y2 : Int32) (r : List Value) (σ : zk_S) (sz k c : Nat), zk_run E (zk_VT E) M_X11_faultsWith (C_X11_faultsWith E) P PX K (n + 1) 64 [l0, l1, some (.int y2)] r (σ, sz, k, c) = zk_run E (zk_VT E) M_X11_faultsWith (C_X11_faultsWith E) P PX K n 65 [l0, l1, some (.int y2)] (.int y2 :: r) (σ, sz, k, c)) ∧
  (∀ (n : Nat) (l0 l1 l2 : Option Value) (x : Int32)  (σ : zk_S) (sz k c : Nat), zk_run E (zk_VT E) M_X11_faultsWith (C_X11_faultsWith E) P PX K (n + 1) 65 [l0, l1, l2] [.int x] (σ, sz, k, c) = (zk_nok (some (.int)) x ∧ P (some (.int x)) σ sz ∧ k ≤ 0 ∧ c ≤ 0)) := ⟨by intros; rfl, by intros; rfl, by intros; rfl, by intros; rfl, by intros; rfl, by intros; rfl, by intros; rfl, by intros; rfl, by intros; rfl, by intros; rfl, by intros; rfl, by intros; rfl, by intros; rfl, by intros; rfl, by intros; rfl, by intros; rfl, by intros; rfl, by intros; rfl, by intros; rfl, by intros; rfl, by intros; rfl, by intros; rfl, by intros; rfl, by intros; rfl, by intros; rfl, by intros; rfl, by intros; rfl, by intros; rfl, by intros; rfl, by intros; rfl, by intros; rfl, by intros; rfl, by intros; rfl, by intros; rfl, by intros; rfl, by intros; rfl, by intros; rfl, by intros; rfl, by intros; rfl, by intros; rfl⟩
theorem r_X11_faultsWith_1 (E : zk_E) (P : zk_P zk_S) (PX : zk_X zk_S) (K : Nat → zk_L → List Value → zk_W zk_S → Prop) : (∀ (n : Nat) (l0 l1 l2 : Option Value) (r : List Value) (w : zk_W zk_S), zk_go E (zk_VT E) M_X11_faultsWith (C_X11_faultsWith E) P PX K n 0 [l0, l1, l2] r w = zk_run E (zk_VT E) M_X11_faultsWith (C_X11_faultsWith E) P PX K (n + 1) 0 [l0, l1, l2] r w) := by intros; rfl
theorem vc_X11_faultsWith (E : zk_E) : zk_VC E (zk_VT E) M_X11_faultsWith (C_X11_faultsWith E) 3 (sp_X11_faultsWith E) := by
  intro av σ sz P PX h
  obtain ⟨J, N, Q, O, U⟩ := σ
  unfold sp_X11_faultsWith at h
  split at h
  case h_2 => exact h.elim
  rename_i a0 r
  obtain ⟨rfl, h⟩ := h
  refine ⟨Nat.le_of_ble_eq_true rfl, fun G hG => ?_⟩
  change G 0 [some (.ref (zk_ad E 22)), some (.int r), none] [] ((J, N, Q, O, U), sz, 0, 0)
  try dsimp only at h
  obtain ⟨hmi, h⟩ := h
  have hms := hmi.1
  have hms0 := hms.thr 0
  rcases h with ⟨j, hj, rfl, h⟩ | ⟨hr, h⟩
  · have c1 := m_isDoor_t hms hj
    have hj40 := hj.lt hms
    have hin : vp_in (nI j) 40 := n_in hj40 (by decide)
    have hcl : (nI j).toNatClampNeg = j := n_cl (by omega)
    have hn1 : vp_nar .boolean 1 = 1 := by decide
    have hn0 : vp_nar .boolean 0 = 0 := by decide
    have c10 : ¬ (1 : Int32) = 0 := by decide
    have hmt := (hmi.thr 0).tgl hj.1
    have ef : ∀ N', nI (a_fl (zk_uj J 22 0 0) N' 10).length = nI (a_faults J N') := fun N' => by rw [((QE.thr J N' 0).es).fl]; rfl
    unfold m_tgl at h hmt
    rcases (hmi.2.2.1 j hj.1).2.2.2.2.2 with q | q
    · rw [if_pos q] at h hmt
      (refine hG 900 _ _ _ _ ?_; simp only [r_X11_faultsWith, r_X11_faultsWith_1, zk_kl_none, zk_kl_int, zk_kl_ref, zk_kl_null, zk_kl_long, zk_kl_rf, zk_isr_ref, zk_isr_null, zk_isr_rf9, zk_c1_int, zk_c1_ref, zk_c1_null, zk_c1_rf, zk_psh_some, zk_psh_none, zk_nok_int, zk_nok_bool0, zk_nok_bool1, zk_nok_b, zk_fok_0, zk_fok_1, zk_fok_2, zk_fok_n, zk_fok_rf, zb_f, zb_p, zb_i, zb_a, zb_s, zk_nth_0, zk_nth_s, zk_fld_o, zk_put_o, zk_rv_eq, zk_ri_eq, zk_is_o, List.mem_cons, List.not_mem_nil, or_false, false_or, or_true, true_or, and_true, true_and, not_false_iff, not_true_eq_false, true_implies, false_implies, imp_self, implies_true, forall_const, zk_lit, zk_uj_ap, zk_un_ap, zk_un_un, zk_uj_uj, Nat.reduceEqDiff, eq_self, zk_bq, Bool.true_or, Bool.false_or, Nat.le_refl, Nat.zero_add, Nat.add_zero, Nat.reduceAdd, Nat.reduceLeDiff, Nat.le_zero_eq, and_self, and_false, false_and, ite_true, ite_false, Nat.zero_le, List.length_cons, List.length_nil, Option.some.injEq, forall_eq', reduceCtorEq, spe_X11_isDoor, hms0, m_isDoor_thr, c1, zk_b0, Bool.true_eq_false, hin, hcl, q, hn1, hn0, spe_X11_faultsNow])
      refine ⟨hmt, fun J2 N2 hfo => ?_⟩
      have qe := (hfo.qe (QE.thr J (zk_un N 36 (upd (N 36) j 1)) 0)).back
      have h36 : N2 36 j = 1 := by
        have := hfo.1.2 36 (by omega)
        rw [this, zk_un_ap, if_pos rfl, upd_self]
      rw [q] at qe
      rw [ef]
      simp only [r_X11_faultsWith, r_X11_faultsWith_1, zk_kl_none, zk_kl_int, zk_kl_ref, zk_kl_null, zk_kl_long, zk_kl_rf, zk_isr_ref, zk_isr_null, zk_isr_rf9, zk_c1_int, zk_c1_ref, zk_c1_null, zk_c1_rf, zk_psh_some, zk_psh_none, zk_nok_int, zk_nok_bool0, zk_nok_bool1, zk_nok_b, zk_fok_0, zk_fok_1, zk_fok_2, zk_fok_n, zk_fok_rf, zb_f, zb_p, zb_i, zb_a, zb_s, zk_nth_0, zk_nth_s, zk_fld_o, zk_put_o, zk_rv_eq, zk_ri_eq, zk_is_o, List.mem_cons, List.not_mem_nil, or_false, false_or, or_true, true_or, and_true, true_and, not_false_iff, not_true_eq_false, true_implies, false_implies, imp_self, implies_true, forall_const, zk_lit, zk_uj_ap, zk_un_ap, zk_un_un, zk_uj_uj, Nat.reduceEqDiff, eq_self, zk_bq, Bool.true_or, Bool.false_or, Nat.le_refl, Nat.zero_add, Nat.add_zero, Nat.reduceAdd, Nat.reduceLeDiff, Nat.le_zero_eq, and_self, and_false, false_and, ite_true, ite_false, Nat.zero_le, List.length_cons, List.length_nil, Option.some.injEq, forall_eq', reduceCtorEq, hin, hcl, h36, c10, hn0]
      exact h _ _ _ _ qe (fun _ _ => rfl) (Nat.le_refl _)
    · rw [if_neg (by rw [q]; decide)] at h hmt
      (refine hG 900 _ _ _ _ ?_; simp only [r_X11_faultsWith, r_X11_faultsWith_1, zk_kl_none, zk_kl_int, zk_kl_ref, zk_kl_null, zk_kl_long, zk_kl_rf, zk_isr_ref, zk_isr_null, zk_isr_rf9, zk_c1_int, zk_c1_ref, zk_c1_null, zk_c1_rf, zk_psh_some, zk_psh_none, zk_nok_int, zk_nok_bool0, zk_nok_bool1, zk_nok_b, zk_fok_0, zk_fok_1, zk_fok_2, zk_fok_n, zk_fok_rf, zb_f, zb_p, zb_i, zb_a, zb_s, zk_nth_0, zk_nth_s, zk_fld_o, zk_put_o, zk_rv_eq, zk_ri_eq, zk_is_o, List.mem_cons, List.not_mem_nil, or_false, false_or, or_true, true_or, and_true, true_and, not_false_iff, not_true_eq_false, true_implies, false_implies, imp_self, implies_true, forall_const, zk_lit, zk_uj_ap, zk_un_ap, zk_un_un, zk_uj_uj, Nat.reduceEqDiff, eq_self, zk_bq, Bool.true_or, Bool.false_or, Nat.le_refl, Nat.zero_add, Nat.add_zero, Nat.reduceAdd, Nat.reduceLeDiff, Nat.le_zero_eq, and_self, and_false, false_and, ite_true, ite_false, Nat.zero_le, List.length_cons, List.length_nil, Option.some.injEq, forall_eq', reduceCtorEq, spe_X11_isDoor, hms0, m_isDoor_thr, c1, zk_b0, Bool.true_eq_false, hin, hcl, q, c10, hn1, hn0, spe_X11_faultsNow])
      refine ⟨hmt, fun J2 N2 hfo => ?_⟩
      have qe := (hfo.qe (QE.thr J (zk_un N 36 (upd (N 36) j 0)) 0)).back
      have h36 : N2 36 j = 0 := by
        have := hfo.1.2 36 (by omega)
        rw [this, zk_un_ap, if_pos rfl, upd_self]
      rw [q] at qe
      rw [ef]
      simp only [r_X11_faultsWith, r_X11_faultsWith_1, zk_kl_none, zk_kl_int, zk_kl_ref, zk_kl_null, zk_kl_long, zk_kl_rf, zk_isr_ref, zk_isr_null, zk_isr_rf9, zk_c1_int, zk_c1_ref, zk_c1_null, zk_c1_rf, zk_psh_some, zk_psh_none, zk_nok_int, zk_nok_bool0, zk_nok_bool1, zk_nok_b, zk_fok_0, zk_fok_1, zk_fok_2, zk_fok_n, zk_fok_rf, zb_f, zb_p, zb_i, zb_a, zb_s, zk_nth_0, zk_nth_s, zk_fld_o, zk_put_o, zk_rv_eq, zk_ri_eq, zk_is_o, List.mem_cons, List.not_mem_nil, or_false, false_or, or_true, true_or, and_true, true_and, not_false_iff, not_true_eq_false, true_implies, false_implies, imp_self, implies_true, forall_const, zk_lit, zk_uj_ap, zk_un_ap, zk_un_un, zk_uj_uj, Nat.reduceEqDiff, eq_self, zk_bq, Bool.true_or, Bool.false_or, Nat.le_refl, Nat.zero_add, Nat.add_zero, Nat.reduceAdd, Nat.reduceLeDiff, Nat.le_zero_eq, and_self, and_false, false_and, ite_true, ite_false, Nat.zero_le, List.length_cons, List.length_nil, Option.some.injEq, forall_eq', reduceCtorEq, hin, hcl, h36, hn1]
      exact h _ _ _ _ qe (fun _ _ => rfl) (Nat.le_refl _)
  · (refine hG 900 _ _ _ _ ?_; simp only [r_X11_faultsWith, r_X11_faultsWith_1, zk_kl_none, zk_kl_int, zk_kl_ref, zk_kl_null, zk_kl_long, zk_kl_rf, zk_isr_ref, zk_isr_null, zk_isr_rf9, zk_c1_int, zk_c1_ref, zk_c1_null, zk_c1_rf, zk_psh_some, zk_psh_none, zk_nok_int, zk_nok_bool0, zk_nok_bool1, zk_nok_b, zk_fok_0, zk_fok_1, zk_fok_2, zk_fok_n, zk_fok_rf, zb_f, zb_p, zb_i, zb_a, zb_s, zk_nth_0, zk_nth_s, zk_fld_o, zk_put_o, zk_rv_eq, zk_ri_eq, zk_is_o, List.mem_cons, List.not_mem_nil, or_false, false_or, or_true, true_or, and_true, true_and, not_false_iff, not_true_eq_false, true_implies, false_implies, imp_self, implies_true, forall_const, zk_lit, zk_uj_ap, zk_un_ap, zk_un_un, zk_uj_uj, Nat.reduceEqDiff, eq_self, zk_bq, Bool.true_or, Bool.false_or, Nat.le_refl, Nat.zero_add, Nat.add_zero, Nat.reduceAdd, Nat.reduceLeDiff, Nat.le_zero_eq, and_self, and_false, false_and, ite_true, ite_false, Nat.zero_le, List.length_cons, List.length_nil, Option.some.injEq, forall_eq', reduceCtorEq, spe_X11_isDoor, hms0, m_isDoor_thr, hr, zk_b0, spe_X11_no])
    exact h _ _ _ _ (QE.thr J N 1) (fun _ _ => rfl) (Nat.le_refl _)
theorem ct_X11_faultsWith {l : Launch} (hl : l.stackTraces = false) (E : zk_E) : zk_C l E (zk_VT E) yX11_faultsWith cX11_faultsWith 3 (some (.int)) rm_X11_faultsWith (sp_X11_faultsWith E) := by
  refine zk_meth (M := M_X11_faultsWith) (C := C_X11_faultsWith E) hl (by decide +kernel) rfl (fun _ _ => rfl) (zk_VT_ok E) MO_X11_faultsWith TO_X11_faultsWith THo_X11_faultsWith ?_ (vc_X11_faultsWith E)
  exact fun p e s m args below meth c X pc n mc ms sp2 h => by
    have h2 := zk_lka_mem h
    simp only [List.mem_cons, List.not_mem_nil, or_false, Prod.mk.injEq] at h2
    rcases h2 with ⟨rfl, rfl, rfl, rfl, rfl⟩ | ⟨rfl, rfl, rfl, rfl, rfl⟩ | ⟨rfl, rfl, rfl, rfl, rfl⟩
    · exact zk_coV (idx := 167) X (ct_X11_isDoor hl E) (List.forall_mem_cons.mpr ⟨zk_wi 1171 (by decide +kernel) rfl, List.forall_mem_cons.mpr ⟨zk_wi 1173 (by decide +kernel) rfl, List.forall_mem_cons.mpr ⟨zk_wp 18 (by decide +kernel) rfl, List.forall_mem_cons.mpr ⟨zk_wi 6 (by decide +kernel) rfl, List.forall_mem_cons.mpr ⟨zk_wi 1174 (by decide +kernel) rfl, fun _ h => absurd h List.not_mem_nil⟩⟩⟩⟩⟩) (fun ci h => by
      have h := Nat.eq_of_beq_eq_true h
      subst h
      exact ⟨_, _, rfl⟩) (by decide +kernel) ⟨by decide, by decide, by decide +kernel⟩ ⟨by decide, by decide⟩
    · exact zk_coV (idx := 130) X (ct_X11_no hl E) (List.forall_mem_cons.mpr ⟨zk_wi 1108 (by decide +kernel) rfl, List.forall_mem_cons.mpr ⟨zk_wi 1110 (by decide +kernel) rfl, List.forall_mem_cons.mpr ⟨zk_wp 11 (by decide +kernel) rfl, List.forall_mem_cons.mpr ⟨zk_wi 6 (by decide +kernel) rfl, List.forall_mem_cons.mpr ⟨zk_wi 1111 (by decide +kernel) rfl, fun _ h => absurd h List.not_mem_nil⟩⟩⟩⟩⟩) (fun ci h => by
      have h := Nat.eq_of_beq_eq_true h
      subst h
      exact ⟨_, _, rfl⟩) (by decide +kernel) ⟨by decide, by decide, by decide +kernel⟩ ⟨by decide, by decide⟩
    · exact zk_coV (idx := 291) X (ct_X11_faultsNow hl E) (List.forall_mem_cons.mpr ⟨zk_wi 1369 (by decide +kernel) rfl, List.forall_mem_cons.mpr ⟨zk_wi 1371 (by decide +kernel) rfl, List.forall_mem_cons.mpr ⟨zk_wp 48 (by decide +kernel) rfl, List.forall_mem_cons.mpr ⟨zk_wi 6 (by decide +kernel) rfl, List.forall_mem_cons.mpr ⟨zk_wi 1372 (by decide +kernel) rfl, fun _ h => absurd h List.not_mem_nil⟩⟩⟩⟩⟩) (fun ci h => by
      have h := Nat.eq_of_beq_eq_true h
      subst h
      exact ⟨_, _, rfl⟩) (by decide +kernel) ⟨by decide, by decide, by decide +kernel⟩ ⟨by decide, by decide⟩

