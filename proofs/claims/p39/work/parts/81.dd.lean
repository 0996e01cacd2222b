/-! the class: dropAllOf, removeRoom -/
def rmO (p : Nat → Bool) (n : Nat) (f : Nat → Option Nat) : Nat → Option Nat := fun d => if d < n ∧ p d = true then none else f d
theorem rmO_0 (p : Nat → Bool) (f : Nat → Option Nat) : rmO p 0 f = f := by funext d; unfold rmO; rw [if_neg (fun w => absurd w.1 (Nat.not_lt_zero d))]
theorem rmO_at (p : Nat → Bool) (n : Nat) (f : Nat → Option Nat) : rmO p n f n = f n := by unfold rmO; rw [if_neg (fun w => absurd w.1 (Nat.lt_irrefl n))]
theorem rmO_f {p : Nat → Bool} {n : Nat} (f : Nat → Option Nat) (h : p n = false) : rmO p (n + 1) f = rmO p n f := by
  funext d; unfold rmO
  by_cases w : d = n
  · subst w
    rw [if_neg (fun z => by rw [h] at z; cases z.2), if_neg (fun z => absurd z.1 (Nat.lt_irrefl d))]
  · by_cases z : d < n ∧ p d = true
    · rw [if_pos z, if_pos ⟨by omega, z.2⟩]
    · rw [if_neg z, if_neg (fun y => z ⟨by omega, y.2⟩)]
theorem rmO_t {p : Nat → Bool} {n : Nat} (f : Nat → Option Nat) (h : p n = true) : rmO p (n + 1) f = va_up (rmO p n f) n none := by
  funext d
  by_cases w : d = n
  · subst w
    rw [vaup_self]
    unfold rmO
    rw [if_pos ⟨Nat.lt_succ_self d, h⟩]
  · rw [vaup_ne _ _ w]
    unfold rmO
    by_cases z : d < n ∧ p d = true
    · rw [if_pos z, if_pos ⟨by omega, z.2⟩]
    · rw [if_neg z, if_neg (fun y => z ⟨by omega, y.2⟩)]
def o_of (f : Nat → Option Nat) (O : zk_Hp) (b d : Nat) : Bool := match f d with
  | some a => x_of (O a) b
  | none => false
def o_in (f : Nat → Option Nat) (O : zk_Hp) (b d : Nat) : Bool := match f d with
  | some a => decide (fR (O a) 0 = some b)
  | none => false
def TOK (E : zk_E) (Q : Nat → Nat → Option Nat) (O : zk_Hp) : Prop := ∀ s, s < 10 → ∀ a, Q 5 s = some a → E.1 + 28 ≤ a ∧ isT (O a)
def q_rm (Q : Nat → Nat → Option Nat) (O : zk_Hp) (b : Nat) : Nat → Nat → Option Nat := zk_un (zk_un (zk_un Q 3 (rmO (o_of (Q 3) O b) 40 (Q 3))) 4 (rmO (o_in (Q 4) O b) 40 (Q 4))) 5 (rmO (o_of (Q 5) O b) 10 (Q 5))
def sp_X5_dropAllOf (E : zk_E) : zk_Sp zk_S := fun av σ sz P PX => match av with
  | [.ref a, .ref b] => a = zk_ad E 1 ∧ DOK E σ.2.2.1 σ.2.2.2.1 ∧ WOK E σ.2.2.1 σ.2.2.2.1 ∧ TOK E σ.2.2.1 σ.2.2.2.1 ∧ P (some (.int (nI (cntB (o_of (σ.2.2.1 3) σ.2.2.2.1 b) 40 + cntB (o_in (σ.2.2.1 4) σ.2.2.2.1 b) 40 + cntB (o_of (σ.2.2.1 5) σ.2.2.2.1 b) 10)))) (σ.1, σ.2.1, q_rm σ.2.2.1 σ.2.2.2.1 b, σ.2.2.2) sz
  | _ => False
theorem spe_X5_dropAllOf (E : zk_E) (a : Nat) (b : Nat) (σ : zk_S) (sz : Nat) (P : zk_P zk_S) (PX : zk_X zk_S) : sp_X5_dropAllOf E [.ref a, .ref b] σ sz P PX = (a = zk_ad E 1 ∧ DOK E σ.2.2.1 σ.2.2.2.1 ∧ WOK E σ.2.2.1 σ.2.2.2.1 ∧ TOK E σ.2.2.1 σ.2.2.2.1 ∧ P (some (.int (nI (cntB (o_of (σ.2.2.1 3) σ.2.2.2.1 b) 40 + cntB (o_in (σ.2.2.1 4) σ.2.2.2.1 b) 40 + cntB (o_of (σ.2.2.1 5) σ.2.2.2.1 b) 10)))) (σ.1, σ.2.1, q_rm σ.2.2.1 σ.2.2.2.1 b, σ.2.2.2) sz) := propext Iff.rfl
def C_X5_dropAllOf (E : zk_E) : zk_Cl zk_S := zk_lka [(26, 2, 0, 0, zk_rv (zk_VT E) (fun ci => Nat.beq ci 1) (sp_X2_isOf E)), (118, 2, 0, 0, zk_rv (zk_VT E) (fun ci => Nat.beq ci 6) (sp_X2_isOf E))]
theorem r_X5_dropAllOf (E : zk_E) (P : zk_P zk_S) (PX : zk_X zk_S) (K : Nat → zk_L → List Value → zk_W zk_S → Prop) : (∀ (n : Nat) (l0 l1 l2 l3 : Option Value)  (r : List Value) (σ : zk_S) (sz k c : Nat), zk_run E (zk_VT E) M_X5_dropAllOf (C_X5_dropAllOf E) P PX K (n + 1) 0 [l0, l1, l2, l3] r (σ, sz, k, c) = zk_run E (zk_VT E) M_X5_dropAllOf (C_X5_dropAllOf E) P PX K n 1 [l0, l1, l2, l3] (.int (0) :: r) (σ, sz, k, c)) ∧
  (∀ (n : Nat) (l0 l1 l2 l3 : Option Value) (x : Int32) (r : List Value) (σ : zk_S) (sz k c : Nat), zk_run E (zk_VT E) M_X5_dropAllOf (C_X5_dropAllOf E) P PX K (n + 1) 1 [l0, l1, l2, l3] (.int x :: r) (σ, sz, k, c) = zk_run E (zk_VT E) M_X5_dropAllOf (C_X5_dropAllOf E) P PX K n 2 [l0, zk_kl l1, some (.int x), l3] r (σ, sz, k, c)) ∧
  (∀ (n : Nat) (l0 l1 l2 l3 : Option Value)  (r : List Value) (σ : zk_S) (sz k c : Nat), zk_run E (zk_VT E) M_X5_dropAllOf (C_X5_dropAllOf E) P PX K (n + 1) 2 [l0, l1, l2, l3] r (σ, sz, k, c) = zk_run E (zk_VT E) M_X5_dropAllOf (C_X5_dropAllOf E) P PX K n 3 [l0, l1, l2, l3] (.int (0) :: r) (σ, sz, k, c)) ∧
  (∀ (n : Nat) (l0 l1 l2 l3 : Option Value) (x : Int32) (r : List Value) (σ : zk_S) (sz k c : Nat), zk_run E (zk_VT E) M_X5_dropAllOf (C_X5_dropAllOf E) P PX K (n + 1) 3 [l0, l1, l2, l3] (.int x :: r) (σ, sz, k, c) = zk_run E (zk_VT E) M_X5_dropAllOf (C_X5_dropAllOf E) P PX K n 4 [l0, l1, zk_kl l2, some (.int x)] r (σ, sz, k, c)) ∧
  (∀ (n : Nat) (l0 l1 l2 l3 : Option Value)  (r : List Value) (σ : zk_S) (sz k c : Nat), zk_run E (zk_VT E) M_X5_dropAllOf (C_X5_dropAllOf E) P PX K (n + 1) 4 [l0, l1, l2, l3] r (σ, sz, k, c) = K 4 [l0, l1, l2, l3] r (σ, sz, k, c)) ∧
  (∀ (n : Nat) (l0 l1 l2 l3 : Option Value)  (r : List Value) (σ : zk_S) (sz k c : Nat), zk_run E (zk_VT E) M_X5_dropAllOf (C_X5_dropAllOf E) P PX K (n + 1) 5 [l0, l1, l2, l3] r (σ, sz, k, c) = zk_run E (zk_VT E) M_X5_dropAllOf (C_X5_dropAllOf E) P PX K n 7 [l0, l1, l2, l3] (.int (40) :: r) (σ, sz, k, c)) ∧
  (∀ (n : Nat) (l0 l1 l2 l3 : Option Value) (x y : Int32) (r : List Value) (σ : zk_S) (sz k c : Nat), zk_run E (zk_VT E) M_X5_dropAllOf (C_X5_dropAllOf E) P PX K (n + 1) 7 [l0, l1, l2, l3] (.int y :: .int x :: r) (σ, sz, k, c) = ((y ≤ x → zk_run E (zk_VT E) M_X5_dropAllOf (C_X5_dropAllOf E) P PX K n 48 [l0, l1, l2, l3] r (σ, sz, k, c)) ∧ (¬ (y ≤ x) → zk_run E (zk_VT E) M_X5_dropAllOf (C_X5_dropAllOf E) P PX K n 10 [l0, l1, l2, l3] r (σ, sz, k, c)))) ∧
  (∀ (n : Nat) (l1 l2 l3 : Option Value) (y0 : Value) (r : List Value) (σ : zk_S) (sz k c : Nat), zk_run E (zk_VT E) M_X5_dropAllOf (C_X5_dropAllOf E) P PX K (n + 1) 10 [some y0, l1, l2, l3] r (σ, sz, k, c) = (zk_isr y0 ∧ zk_run E (zk_VT E) M_X5_dropAllOf (C_X5_dropAllOf E) P PX K n 11 [some y0, l1, l2, l3] (y0 :: r) (σ, sz, k, c))) ∧
  (∀ (n : Nat) (l0 l1 l2 l3 : Option Value) (a : Nat) (r : List Value) (σ : zk_S) (sz k c : Nat), zk_run E (zk_VT E) M_X5_dropAllOf (C_X5_dropAllOf E) P PX K (n + 1) 11 [l0, l1, l2, l3] (.ref a :: r) (σ, sz, k, c) = zk_fld (zk_view E σ a) [4] 1 (fun v => zk_run E (zk_VT E) M_X5_dropAllOf (C_X5_dropAllOf E) P PX K n 14 [l0, l1, l2, l3] (v :: r) (σ, sz, k, c))) ∧
  (∀ (n : Nat) (l0 l1 l2 : Option Value) (y3 : Int32) (r : List Value) (σ : zk_S) (sz k c : Nat), zk_run E (zk_VT E) M_X5_dropAllOf (C_X5_dropAllOf E) P PX K (n + 1) 14 [l0, l1, l2, some (.int y3)] r (σ, sz, k, c) = zk_run E (zk_VT E) M_X5_dropAllOf (C_X5_dropAllOf E) P PX K n 15 [l0, l1, l2, some (.int y3)] (.int y3 :: r) (σ, sz, k, c)) ∧
  (∀ (n : Nat) (l0 l1 l2 l3 : Option Value) (a : Nat) (i : Int32) (r : List Value) (σ : zk_S) (sz k c : Nat), zk_run E (zk_VT E) M_X5_dropAllOf (C_X5_dropAllOf E) P PX K (n + 1) 15 [l0, l1, l2, l3] (.int i :: .ref a :: r) (σ, sz, k, c) = zk_qld (zk_view E σ a) i [zk_ar E 3, zk_ar E 4, zk_ar E 5, zk_ar E 6, zk_ar E 7] (fun x => (x = none → zk_run E (zk_VT E) M_X5_dropAllOf (C_X5_dropAllOf E) P PX K n 16 [l0, l1, l2, l3] (.null :: r) (σ, sz, k, c)) ∧ ∀ b, x = some b → zk_run E (zk_VT E) M_X5_dropAllOf (C_X5_dropAllOf E) P PX K n 16 [l0, l1, l2, l3] (.ref b :: r) (σ, sz, k, c))) ∧
  (∀ (n : Nat) (l0 l1 l2 l3 : Option Value) (v : Value) (r : List Value) (σ : zk_S) (sz k c : Nat), zk_run E (zk_VT E) M_X5_dropAllOf (C_X5_dropAllOf E) P PX K (n + 1) 16 [l0, l1, l2, l3] (v :: r) (σ, sz, k, c) = (zk_isr v ∧ (v = .null → zk_run E (zk_VT E) M_X5_dropAllOf (C_X5_dropAllOf E) P PX K n 42 [l0, l1, l2, l3] r (σ, sz, k, c)) ∧ (¬ (v = .null) → zk_run E (zk_VT E) M_X5_dropAllOf (C_X5_dropAllOf E) P PX K n 19 [l0, l1, l2, l3] r (σ, sz, k, c)))) ∧
  (∀ (n : Nat) (l1 l2 l3 : Option Value) (y0 : Value) (r : List Value) (σ : zk_S) (sz k c : Nat), zk_run E (zk_VT E) M_X5_dropAllOf (C_X5_dropAllOf E) P PX K (n + 1) 19 [some y0, l1, l2, l3] r (σ, sz, k, c) = (zk_isr y0 ∧ zk_run E (zk_VT E) M_X5_dropAllOf (C_X5_dropAllOf E) P PX K n 20 [some y0, l1, l2, l3] (y0 :: r) (σ, sz, k, c))) ∧
  (∀ (n : Nat) (l0 l1 l2 l3 : Option Value) (a : Nat) (r : List Value) (σ : zk_S) (sz k c : Nat), zk_run E (zk_VT E) M_X5_dropAllOf (C_X5_dropAllOf E) P PX K (n + 1) 20 [l0, l1, l2, l3] (.ref a :: r) (σ, sz, k, c) = zk_fld (zk_view E σ a) [4] 1 (fun v => zk_run E (zk_VT E) M_X5_dropAllOf (C_X5_dropAllOf E) P PX K n 23 [l0, l1, l2, l3] (v :: r) (σ, sz, k, c))) ∧
  (∀ (n : Nat) (l0 l1 l2 : Option Value) (y3 : Int32) (r : List Value) (σ : zk_S) (sz k c : Nat), zk_run E (zk_VT E) M_X5_dropAllOf (C_X5_dropAllOf E) P PX K (n + 1) 23 [l0, l1, l2, some (.int y3)] r (σ, sz, k, c) = zk_run E (zk_VT E) M_X5_dropAllOf (C_X5_dropAllOf E) P PX K n 24 [l0, l1, l2, some (.int y3)] (.int y3 :: r) (σ, sz, k, c)) ∧
  (∀ (n : Nat) (l0 l1 l2 l3 : Option Value) (a : Nat) (i : Int32) (r : List Value) (σ : zk_S) (sz k c : Nat), zk_run E (zk_VT E) M_X5_dropAllOf (C_X5_dropAllOf E) P PX K (n + 1) 24 [l0, l1, l2, l3] (.int i :: .ref a :: r) (σ, sz, k, c) = zk_qld (zk_view E σ a) i [zk_ar E 3, zk_ar E 4, zk_ar E 5, zk_ar E 6, zk_ar E 7] (fun x => (x = none → zk_run E (zk_VT E) M_X5_dropAllOf (C_X5_dropAllOf E) P PX K n 25 [l0, l1, l2, l3] (.null :: r) (σ, sz, k, c)) ∧ ∀ b, x = some b → zk_run E (zk_VT E) M_X5_dropAllOf (C_X5_dropAllOf E) P PX K n 25 [l0, l1, l2, l3] (.ref b :: r) (σ, sz, k, c))) ∧
  (∀ (n : Nat) (l0 l2 l3 : Option Value) (y1 : Value) (r : List Value) (σ : zk_S) (sz k c : Nat), zk_run E (zk_VT E) M_X5_dropAllOf (C_X5_dropAllOf E) P PX K (n + 1) 25 [l0, some y1, l2, l3] r (σ, sz, k, c) = (zk_isr y1 ∧ zk_run E (zk_VT E) M_X5_dropAllOf (C_X5_dropAllOf E) P PX K n 26 [l0, some y1, l2, l3] (y1 :: r) (σ, sz, k, c))) ∧
  (∀ (n : Nat) (l0 l1 l2 l3 : Option Value) (v0 : Value) (v1 : Value)  (σ : zk_S) (sz k c : Nat), zk_run E (zk_VT E) M_X5_dropAllOf (C_X5_dropAllOf E) P PX K (n + 1) 26 [l0, l1, l2, l3] [v0, v1] (σ, sz, k, c) = (k + 0 ≤ 0 ∧ c + 0 ≤ 0 ∧ (zk_rv (zk_VT E) (fun ci => Nat.beq ci 1) (sp_X2_isOf E)) [v1, v0] σ sz (fun v s2 z2 => zk_run E (zk_VT E) M_X5_dropAllOf (C_X5_dropAllOf E) P PX K n 29 [l0, l1, l2, l3] (zk_psh v []) (s2, z2, k + 0, c + 0)) (fun X s2 z2 => PX X s2 z2))) ∧
  (∀ (n : Nat) (l0 l1 l2 l3 : Option Value) (x : Int32) (r : List Value) (σ : zk_S) (sz k c : Nat), zk_run E (zk_VT E) M_X5_dropAllOf (C_X5_dropAllOf E) P PX K (n + 1) 29 [l0, l1, l2, l3] (.int x :: r) (σ, sz, k, c) = ((x = 0 → zk_run E (zk_VT E) M_X5_dropAllOf (C_X5_dropAllOf E) P PX K n 42 [l0, l1, l2, l3] r (σ, sz, k, c)) ∧ (¬ (x = 0) → zk_run E (zk_VT E) M_X5_dropAllOf (C_X5_dropAllOf E) P PX K n 32 [l0, l1, l2, l3] r (σ, sz, k, c)))) ∧
  (∀ (n : Nat) (l1 l2 l3 : Option Value) (y0 : Value) (r : List Value) (σ : zk_S) (sz k c : Nat), zk_run E (zk_VT E) M_X5_dropAllOf (C_X5_dropAllOf E) P PX K (n + 1) 32 [some y0, l1, l2, l3] r (σ, sz, k, c) = (zk_isr y0 ∧ zk_run E (zk_VT E) M_X5_dropAllOf (C_X5_dropAllOf E) P PX K n 33 [some y0, l1, l2, l3] (y0 :: r) (σ, sz, k, c))) ∧
  (∀ (n : Nat) (l0 l1 l2 l3 : Option Value) (a : Nat) (r : List Value) (σ : zk_S) (sz k c : Nat), zk_run E (zk_VT E) M_X5_dropAllOf (C_X5_dropAllOf E) P PX K (n + 1) 33 [l0, l1, l2, l3] (.ref a :: r) (σ, sz, k, c) = zk_fld (zk_view E σ a) [4] 1 (fun v => zk_run E (zk_VT E) M_X5_dropAllOf (C_X5_dropAllOf E) P PX K n 36 [l0, l1, l2, l3] (v :: r) (σ, sz, k, c))) ∧
  (∀ (n : Nat) (l0 l1 l2 : Option Value) (y3 : Int32) (r : List Value) (σ : zk_S) (sz k c : Nat), zk_run E (zk_VT E) M_X5_dropAllOf (C_X5_dropAllOf E) P PX K (n + 1) 36 [l0, l1, l2, some (.int y3)] r (σ, sz, k, c) = zk_run E (zk_VT E) M_X5_dropAllOf (C_X5_dropAllOf E) P PX K n 37 [l0, l1, l2, some (.int y3)] (.int y3 :: r) (σ, sz, k, c)) ∧
  (∀ (n : Nat) (l0 l1 l2 l3 : Option Value)  (r : List Value) (σ : zk_S) (sz k c : Nat), zk_run E (zk_VT E) M_X5_dropAllOf (C_X5_dropAllOf E) P PX K (n + 1) 37 [l0, l1, l2, l3] r (σ, sz, k, c) = zk_run E (zk_VT E) M_X5_dropAllOf (C_X5_dropAllOf E) P PX K n 38 [l0, l1, l2, l3] (.null :: r) (σ, sz, k, c)) ∧
  (∀ (n : Nat) (l0 l1 l2 l3 : Option Value) (a : Nat) (i : Int32) (r : List Value) (σ : zk_S) (sz k c : Nat), zk_run E (zk_VT E) M_X5_dropAllOf (C_X5_dropAllOf E) P PX K (n + 1) 38 [l0, l1, l2, l3] (.null :: .int i :: .ref a :: r) (σ, sz, k, c) = zk_qsn (zk_view E σ a) i [zk_ar E 3, zk_ar E 4, zk_ar E 5, zk_ar E 6] (fun e => zk_wrok E σ a e ∧ zk_run E (zk_VT E) M_X5_dropAllOf (C_X5_dropAllOf E) P PX K n 39 [l0, l1, l2, l3] r (zk_wr E σ a e, sz, k, c))) ∧
  (∀ (n : Nat) (l0 l1 l2 l3 : Option Value) (a v : Nat) (i : Int32) (r : List Value) (σ : zk_S) (sz k c : Nat), zk_run E (zk_VT E) M_X5_dropAllOf (C_X5_dropAllOf E) P PX K (n + 1) 38 [l0, l1, l2, l3] (.ref v :: .int i :: .ref a :: r) (σ, sz, k, c) = zk_qst E (zk_view E σ a) (zk_view E σ v) i v (fun e => zk_wrok E σ a e ∧ zk_run E (zk_VT E) M_X5_dropAllOf (C_X5_dropAllOf E) P PX K n 39 [l0, l1, l2, l3] r (zk_wr E σ a e, sz, k, c))) ∧
  (∀ (n : Nat) (l0 l1 l3 : Option Value) (y2 : Int32) (r : List Value) (σ : zk_S) (sz k c : Nat), zk_run E (zk_VT E) M_X5_dropAllOf (C_X5_dropAllOf E) P PX K (n + 1) 39 [l0, l1, some (.int y2), l3] r (σ, sz, k, c) = zk_run E (zk_VT E) M_X5_dropAllOf (C_X5_dropAllOf E) P PX K n 42 [l0, zk_kl l1, some (.int (y2 + 1)), l3] r (σ, sz, k, c)) ∧
  (∀ (n : Nat) (l0 l1 l2 : Option Value) (y3 : Int32) (r : List Value) (σ : zk_S) (sz k c : Nat), zk_run E (zk_VT E) M_X5_dropAllOf (C_X5_dropAllOf E) P PX K (n + 1) 42 [l0, l1, l2, some (.int y3)] r (σ, sz, k, c) = zk_run E (zk_VT E) M_X5_dropAllOf (C_X5_dropAllOf E) P PX K n 45 [l0, l1, zk_kl l2, some (.int (y3 + 1))] r (σ, sz, k, c)) ∧
  (∀ (n : Nat) (l0 l1 l2 l3 : Option Value)  (r : List Value) (σ : zk_S) (sz k c : Nat), zk_run E (zk_VT E) M_X5_dropAllOf (C_X5_dropAllOf E) P PX K (n + 1) 45 [l0, l1, l2, l3] r (σ, sz, k, c) = zk_run E (zk_VT E) M_X5_dropAllOf (C_X5_dropAllOf E) P PX K n 4 [l0, l1, l2, l3] r (σ, sz, k, c)) ∧
  (∀ (n : Nat) (l0 l1 l2 l3 : Option Value)  (r : List Value) (σ : zk_S) (sz k c : Nat), zk_run E (zk_VT E) M_X5_dropAllOf (C_X5_dropAllOf E) P PX K (n + 1) 48 [l0, l1, l2, l3] r (σ, sz, k, c) = zk_run E (zk_VT E) M_X5_dropAllOf (C_X5_dropAllOf E) P PX K n 49 [l0, l1, l2, l3] (.int (0) :: r) (σ, sz, k, c)) ∧
  (∀ (n : Nat) (l0 l1 l2 l3 : Option Value) (x : Int32) (r : List Value) (σ : zk_S) (sz k c : Nat), zk_run E (zk_VT E) M_X5_dropAllOf (C_X5_dropAllOf E) P PX K (n + 1) 49 [l0, l1, l2, l3] (.int x :: r) (σ, sz, k, c) = zk_run E (zk_VT E) M_X5_dropAllOf (C_X5_dropAllOf E) P PX K n 50 [l0, l1, zk_kl l2, some (.int x)] r (σ, sz, k, c)) ∧
  (∀ (n : Nat) (l0 l1 l2 l3 : Option Value)  (r : List Value) (σ : zk_S) (sz k c : Nat), zk_run E (zk_VT E) M_X5_dropAllOf (C_X5_dropAllOf E) P PX K (n + 1) 50 [l0, l1, l2, l3] r (σ, sz, k, c) = K 50 [l0, l1, l2, l3] r (σ, sz, k, c)) ∧
  (∀ (n : Nat) (l0 l1 l2 l3 : Option Value)  (r : List Value) (σ : zk_S) (sz k c : Nat), zk_run E (zk_VT E) M_X5_dropAllOf (C_X5_dropAllOf E) P PX K (n + 1) 51 [l0, l1, l2, l3] r (σ, sz, k, c) = zk_run E (zk_VT E) M_X5_dropAllOf (C_X5_dropAllOf E) P PX K n 53 [l0, l1, l2, l3] (.int (40) :: r) (σ, sz, k, c)) ∧
  (∀ (n : Nat) (l0 l1 l2 l3 : Option Value) (x y : Int32) (r : List Value) (σ : zk_S) (sz k c : Nat), zk_run E (zk_VT E) M_X5_dropAllOf (C_X5_dropAllOf E) P PX K (n + 1) 53 [l0, l1, l2, l3] (.int y :: .int x :: r) (σ, sz, k, c) = ((y ≤ x → zk_run E (zk_VT E) M_X5_dropAllOf (C_X5_dropAllOf E) P PX K n 94 [l0, l1, l2, l3] r (σ, sz, k, c)) ∧ (¬ (y ≤ x) → zk_run E (zk_VT E) M_X5_dropAllOf (C_X5_dropAllOf E) P PX K n 56 [l0, l1, l2, l3] r (σ, sz, k, c)))) ∧
  (∀ (n : Nat) (l1 l2 l3 : Option Value) (y0 : Value) (r : List Value) (σ : zk_S) (sz k c : Nat), zk_run E (zk_VT E) M_X5_dropAllOf (C_X5_dropAllOf E) P PX K (n + 1) 56 [some y0, l1, l2, l3] r (σ, sz, k, c) = (zk_isr y0 ∧ zk_run E (zk_VT E) M_X5_dropAllOf (C_X5_dropAllOf E) P PX K n 57 [some y0, l1, l2, l3] (y0 :: r) (σ, sz, k, c))) ∧
  (∀ (n : Nat) (l0 l1 l2 l3 : Option Value) (a : Nat) (r : List Value) (σ : zk_S) (sz k c : Nat), zk_run E (zk_VT E) M_X5_dropAllOf (C_X5_dropAllOf E) P PX K (n + 1) 57 [l0, l1, l2, l3] (.ref a :: r) (σ, sz, k, c) = zk_fld (zk_view E σ a) [4] 2 (fun v => zk_run E (zk_VT E) M_X5_dropAllOf (C_X5_dropAllOf E) P PX K n 60 [l0, l1, l2, l3] (v :: r) (σ, sz, k, c))) ∧
  (∀ (n : Nat) (l0 l1 l2 : Option Value) (y3 : Int32) (r : List Value) (σ : zk_S) (sz k c : Nat), zk_run E (zk_VT E) M_X5_dropAllOf (C_X5_dropAllOf E) P PX K (n + 1) 60 [l0, l1, l2, some (.int y3)] r (σ, sz, k, c) = zk_run E (zk_VT E) M_X5_dropAllOf (C_X5_dropAllOf E) P PX K n 61 [l0, l1, l2, some (.int y3)] (.int y3 :: r) (σ, sz, k, c)) ∧
  (∀ (n : Nat) (l0 l1 l2 l3 : Option Value) (a : Nat) (i : Int32) (r : List Value) (σ : zk_S) (sz k c : Nat), zk_run E (zk_VT E) M_X5_dropAllOf (C_X5_dropAllOf E) P PX K (n + 1) 61 [l0, l1, l2, l3] (.int i :: .ref a :: r) (σ, sz, k, c) = zk_qld (zk_view E σ a) i [zk_ar E 3, zk_ar E 4, zk_ar E 5, zk_ar E 6, zk_ar E 7] (fun x => (x = none → zk_run E (zk_VT E) M_X5_dropAllOf (C_X5_dropAllOf E) P PX K n 62 [l0, l1, l2, l3] (.null :: r) (σ, sz, k, c)) ∧ ∀ b, x = some b → zk_run E (zk_VT E) M_X5_dropAllOf (C_X5_dropAllOf E) P PX K n 62 [l0, l1, l2, l3] (.ref b :: r) (σ, sz, k, c))) ∧
  (∀ (n : Nat) (l0 l1 l2 l3 : Option Value) (v : Value) (r : List Value) (σ : zk_S) (sz k c : Nat), zk_run E (zk_VT E) M_X5_dropAllOf (C_X5_dropAllOf E) P PX K (n + 1) 62 [l0, l1, l2, l3] (v :: r) (σ, sz, k, c) = (zk_isr v ∧ (v = .null → zk_run E (zk_VT E) M_X5_dropAllOf (C_X5_dropAllOf E) P PX K n 88 [l0, l1, l2, l3] r (σ, sz, k, c)) ∧ (¬ (v = .null) → zk_run E (zk_VT E) M_X5_dropAllOf (C_X5_dropAllOf E) P PX K n 65 [l0, l1, l2, l3] r (σ, sz, k, c)))) ∧
  (∀ (n : Nat) (l1 l2 l3 : Option Value) (y0 : Value) (r : List Value) (σ : zk_S) (sz k c : Nat), zk_run E (zk_VT E) M_X5_dropAllOf (C_X5_dropAllOf E) P PX K (n + 1) 65 [some y0, l1, l2, l3] r (σ, sz, k, c) = (zk_isr y0 ∧ zk_run E (zk_VT E) M_X5_dropAllOf (C_X5_dropAllOf E) P PX K n 66 [some y0, l1, l2, l3] (y0 :: r) (σ, sz, k, c))) ∧
  (∀ (n : Nat) (l0 l1 l2 l3 : Option Value) (a : Nat) (r : List Value) (σ : zk_S) (sz k c : Nat), zk_run E (zk_VT E) M_X5_dropAllOf (C_X5_dropAllOf E) P PX K (n + 1) 66 [l0, l1, l2, l3] (.ref a :: r) (σ, sz, k, c) = zk_fld (zk_view E σ a) [4] 2 (fun v => zk_run E (zk_VT E) M_X5_dropAllOf (C_X5_dropAllOf E) P PX K n 69 [l0, l1, l2, l3] (v :: r) (σ, sz, k, c))) := ⟨by intros; rfl, by intros; rfl, by intros; rfl, by intros; rfl, by intros; rfl, by intros; rfl, by intros; rfl, by intros; rfl, by intros; rfl, by intros; rfl, by intros; rfl, by intros; rfl, by intros; rfl, by intros; rfl, by intros; rfl, by intros; rfl, by intros; rfl, by intros; rfl, by intros; rfl, by intros; rfl, by intros; rfl, by intros; rfl, by intros; rfl, by intros; rfl, by intros; rfl, by intros; rfl, by intros; rfl, by intros; rfl, by intros; rfl, by intros; rfl, by intros; rfl, by intros; rfl, by intros; rfl, by intros; rfl, by intros; rfl, by intros; rfl, by intros; rfl, by intros; rfl, by intros; rfl, by intros; rfl⟩
theorem r_X5_dropAllOf_1 (E : zk_E) (P : zk_P zk_S) (PX : zk_X zk_S) (K : Nat → zk_L → List Value → zk_W zk_S → Prop) : (∀ (n : Nat) (l0 l1 l2 : Option Value) (y3 : Int32) (r : List Value) (σ : zk_S) (sz k c : Nat), zk_run E (zk_VT E) M_X5_dropAllOf (C_X5_dropAllOf E) P PX K (n + 1) 69 [l0, l1, l2, some (.int y3)] r (σ, sz, k, c) = zk_run E (zk_VT E) M_X5_dropAllOf (C_X5_dropAllOf E) P PX K n 70 [l0, l1, l2, some (.int y3)] (.int y3 :: r) (σ, sz, k, c)) ∧
  (∀ (n : Nat) (l0 l1 l2 l3 : Option Value) (a : Nat) (i : Int32) (r : List Value) (σ : zk_S) (sz k c : Nat), zk_run E (zk_VT E) M_X5_dropAllOf (C_X5_dropAllOf E) P PX K (n + 1) 70 [l0, l1, l2, l3] (.int i :: .ref a :: r) (σ, sz, k, c) = zk_qld (zk_view E σ a) i [zk_ar E 3, zk_ar E 4, zk_ar E 5, zk_ar E 6, zk_ar E 7] (fun x => (x = none → zk_run E (zk_VT E) M_X5_dropAllOf (C_X5_dropAllOf E) P PX K n 71 [l0, l1, l2, l3] (.null :: r) (σ, sz, k, c)) ∧ ∀ b, x = some b → zk_run E (zk_VT E) M_X5_dropAllOf (C_X5_dropAllOf E) P PX K n 71 [l0, l1, l2, l3] (.ref b :: r) (σ, sz, k, c))) ∧
  (∀ (n : Nat) (l0 l1 l2 l3 : Option Value) (a : Nat) (r : List Value) (σ : zk_S) (sz k c : Nat), zk_run E (zk_VT E) M_X5_dropAllOf (C_X5_dropAllOf E) P PX K (n + 1) 71 [l0, l1, l2, l3] (.ref a :: r) (σ, sz, k, c) = zk_fld (zk_view E σ a) [] 0 (fun v => zk_run E (zk_VT E) M_X5_dropAllOf (C_X5_dropAllOf E) P PX K n 74 [l0, l1, l2, l3] (v :: r) (σ, sz, k, c))) ∧
  (∀ (n : Nat) (l0 l2 l3 : Option Value) (y1 : Value) (r : List Value) (σ : zk_S) (sz k c : Nat), zk_run E (zk_VT E) M_X5_dropAllOf (C_X5_dropAllOf E) P PX K (n + 1) 74 [l0, some y1, l2, l3] r (σ, sz, k, c) = (zk_isr y1 ∧ zk_run E (zk_VT E) M_X5_dropAllOf (C_X5_dropAllOf E) P PX K n 75 [l0, some y1, l2, l3] (y1 :: r) (σ, sz, k, c))) ∧
  (∀ (n : Nat) (l0 l1 l2 l3 : Option Value) (x y : Value) (r : List Value) (σ : zk_S) (sz k c : Nat), zk_run E (zk_VT E) M_X5_dropAllOf (C_X5_dropAllOf E) P PX K (n + 1) 75 [l0, l1, l2, l3] (y :: x :: r) (σ, sz, k, c) = (zk_isr x ∧ zk_isr y ∧ (¬ x = y → zk_run E (zk_VT E) M_X5_dropAllOf (C_X5_dropAllOf E) P PX K n 88 [l0, l1, l2, l3] r (σ, sz, k, c)) ∧ (¬ (¬ x = y) → zk_run E (zk_VT E) M_X5_dropAllOf (C_X5_dropAllOf E) P PX K n 78 [l0, l1, l2, l3] r (σ, sz, k, c)))) ∧
  (∀ (n : Nat) (l1 l2 l3 : Option Value) (y0 : Value) (r : List Value) (σ : zk_S) (sz k c : Nat), zk_run E (zk_VT E) M_X5_dropAllOf (C_X5_dropAllOf E) P PX K (n + 1) 78 [some y0, l1, l2, l3] r (σ, sz, k, c) = (zk_isr y0 ∧ zk_run E (zk_VT E) M_X5_dropAllOf (C_X5_dropAllOf E) P PX K n 79 [some y0, l1, l2, l3] (y0 :: r) (σ, sz, k, c))) ∧
  (∀ (n : Nat) (l0 l1 l2 l3 : Option Value) (a : Nat) (r : List Value) (σ : zk_S) (sz k c : Nat), zk_run E (zk_VT E) M_X5_dropAllOf (C_X5_dropAllOf E) P PX K (n + 1) 79 [l0, l1, l2, l3] (.ref a :: r) (σ, sz, k, c) = zk_fld (zk_view E σ a) [4] 2 (fun v => zk_run E (zk_VT E) M_X5_dropAllOf (C_X5_dropAllOf E) P PX K n 82 [l0, l1, l2, l3] (v :: r) (σ, sz, k, c))) ∧
  (∀ (n : Nat) (l0 l1 l2 : Option Value) (y3 : Int32) (r : List Value) (σ : zk_S) (sz k c : Nat), zk_run E (zk_VT E) M_X5_dropAllOf (C_X5_dropAllOf E) P PX K (n + 1) 82 [l0, l1, l2, some (.int y3)] r (σ, sz, k, c) = zk_run E (zk_VT E) M_X5_dropAllOf (C_X5_dropAllOf E) P PX K n 83 [l0, l1, l2, some (.int y3)] (.int y3 :: r) (σ, sz, k, c)) ∧
  (∀ (n : Nat) (l0 l1 l2 l3 : Option Value)  (r : List Value) (σ : zk_S) (sz k c : Nat), zk_run E (zk_VT E) M_X5_dropAllOf (C_X5_dropAllOf E) P PX K (n + 1) 83 [l0, l1, l2, l3] r (σ, sz, k, c) = zk_run E (zk_VT E) M_X5_dropAllOf (C_X5_dropAllOf E) P PX K n 84 [l0, l1, l2, l3] (.null :: r) (σ, sz, k, c)) ∧
  (∀ (n : Nat) (l0 l1 l2 l3 : Option Value) (a : Nat) (i : Int32) (r : List Value) (σ : zk_S) (sz k c : Nat), zk_run E (zk_VT E) M_X5_dropAllOf (C_X5_dropAllOf E) P PX K (n + 1) 84 [l0, l1, l2, l3] (.null :: .int i :: .ref a :: r) (σ, sz, k, c) = zk_qsn (zk_view E σ a) i [zk_ar E 3, zk_ar E 4, zk_ar E 5, zk_ar E 6] (fun e => zk_wrok E σ a e ∧ zk_run E (zk_VT E) M_X5_dropAllOf (C_X5_dropAllOf E) P PX K n 85 [l0, l1, l2, l3] r (zk_wr E σ a e, sz, k, c))) ∧
  (∀ (n : Nat) (l0 l1 l2 l3 : Option Value) (a v : Nat) (i : Int32) (r : List Value) (σ : zk_S) (sz k c : Nat), zk_run E (zk_VT E) M_X5_dropAllOf (C_X5_dropAllOf E) P PX K (n + 1) 84 [l0, l1, l2, l3] (.ref v :: .int i :: .ref a :: r) (σ, sz, k, c) = zk_qst E (zk_view E σ a) (zk_view E σ v) i v (fun e => zk_wrok E σ a e ∧ zk_run E (zk_VT E) M_X5_dropAllOf (C_X5_dropAllOf E) P PX K n 85 [l0, l1, l2, l3] r (zk_wr E σ a e, sz, k, c))) ∧
  (∀ (n : Nat) (l0 l1 l3 : Option Value) (y2 : Int32) (r : List Value) (σ : zk_S) (sz k c : Nat), zk_run E (zk_VT E) M_X5_dropAllOf (C_X5_dropAllOf E) P PX K (n + 1) 85 [l0, l1, some (.int y2), l3] r (σ, sz, k, c) = zk_run E (zk_VT E) M_X5_dropAllOf (C_X5_dropAllOf E) P PX K n 88 [l0, zk_kl l1, some (.int (y2 + 1)), l3] r (σ, sz, k, c)) ∧
  (∀ (n : Nat) (l0 l1 l2 : Option Value) (y3 : Int32) (r : List Value) (σ : zk_S) (sz k c : Nat), zk_run E (zk_VT E) M_X5_dropAllOf (C_X5_dropAllOf E) P PX K (n + 1) 88 [l0, l1, l2, some (.int y3)] r (σ, sz, k, c) = zk_run E (zk_VT E) M_X5_dropAllOf (C_X5_dropAllOf E) P PX K n 91 [l0, l1, zk_kl l2, some (.int (y3 + 1))] r (σ, sz, k, c)) ∧
  (∀ (n : Nat) (l0 l1 l2 l3 : Option Value)  (r : List Value) (σ : zk_S) (sz k c : Nat), zk_run E (zk_VT E) M_X5_dropAllOf (C_X5_dropAllOf E) P PX K (n + 1) 91 [l0, l1, l2, l3] r (σ, sz, k, c) = zk_run E (zk_VT E) M_X5_dropAllOf (C_X5_dropAllOf E) P PX K n 50 [l0, l1, l2, l3] r (σ, sz, k, c)) ∧
  (∀ (n : Nat) (l0 l1 l2 l3 : Option Value)  (r : List Value) (σ : zk_S) (sz k c : Nat), zk_run E (zk_VT E) M_X5_dropAllOf (C_X5_dropAllOf E) P PX K (n + 1) 94 [l0, l1, l2, l3] r (σ, sz, k, c) = zk_run E (zk_VT E) M_X5_dropAllOf (C_X5_dropAllOf E) P PX K n 95 [l0, l1, l2, l3] (.int (0) :: r) (σ, sz, k, c)) ∧
  (∀ (n : Nat) (l0 l1 l2 l3 : Option Value) (x : Int32) (r : List Value) (σ : zk_S) (sz k c : Nat), zk_run E (zk_VT E) M_X5_dropAllOf (C_X5_dropAllOf E) P PX K (n + 1) 95 [l0, l1, l2, l3] (.int x :: r) (σ, sz, k, c) = zk_run E (zk_VT E) M_X5_dropAllOf (C_X5_dropAllOf E) P PX K n 96 [l0, l1, zk_kl l2, some (.int x)] r (σ, sz, k, c)) ∧
  (∀ (n : Nat) (l0 l1 l2 l3 : Option Value)  (r : List Value) (σ : zk_S) (sz k c : Nat), zk_run E (zk_VT E) M_X5_dropAllOf (C_X5_dropAllOf E) P PX K (n + 1) 96 [l0, l1, l2, l3] r (σ, sz, k, c) = K 96 [l0, l1, l2, l3] r (σ, sz, k, c)) ∧
  (∀ (n : Nat) (l0 l1 l2 l3 : Option Value)  (r : List Value) (σ : zk_S) (sz k c : Nat), zk_run E (zk_VT E) M_X5_dropAllOf (C_X5_dropAllOf E) P PX K (n + 1) 97 [l0, l1, l2, l3] r (σ, sz, k, c) = zk_run E (zk_VT E) M_X5_dropAllOf (C_X5_dropAllOf E) P PX K n 99 [l0, l1, l2, l3] (.int (10) :: r) (σ, sz, k, c)) ∧
  (∀ (n : Nat) (l0 l1 l2 l3 : Option Value) (x y : Int32) (r : List Value) (σ : zk_S) (sz k c : Nat), zk_run E (zk_VT E) M_X5_dropAllOf (C_X5_dropAllOf E) P PX K (n + 1) 99 [l0, l1, l2, l3] (.int y :: .int x :: r) (σ, sz, k, c) = ((y ≤ x → zk_run E (zk_VT E) M_X5_dropAllOf (C_X5_dropAllOf E) P PX K n 140 [l0, l1, l2, l3] r (σ, sz, k, c)) ∧ (¬ (y ≤ x) → zk_run E (zk_VT E) M_X5_dropAllOf (C_X5_dropAllOf E) P PX K n 102 [l0, l1, l2, l3] r (σ, sz, k, c)))) ∧
  (∀ (n : Nat) (l1 l2 l3 : Option Value) (y0 : Value) (r : List Value) (σ : zk_S) (sz k c : Nat), zk_run E (zk_VT E) M_X5_dropAllOf (C_X5_dropAllOf E) P PX K (n + 1) 102 [some y0, l1, l2, l3] r (σ, sz, k, c) = (zk_isr y0 ∧ zk_run E (zk_VT E) M_X5_dropAllOf (C_X5_dropAllOf E) P PX K n 103 [some y0, l1, l2, l3] (y0 :: r) (σ, sz, k, c))) ∧
  (∀ (n : Nat) (l0 l1 l2 l3 : Option Value) (a : Nat) (r : List Value) (σ : zk_S) (sz k c : Nat), zk_run E (zk_VT E) M_X5_dropAllOf (C_X5_dropAllOf E) P PX K (n + 1) 103 [l0, l1, l2, l3] (.ref a :: r) (σ, sz, k, c) = zk_fld (zk_view E σ a) [4] 3 (fun v => zk_run E (zk_VT E) M_X5_dropAllOf (C_X5_dropAllOf E) P PX K n 106 [l0, l1, l2, l3] (v :: r) (σ, sz, k, c))) ∧
  (∀ (n : Nat) (l0 l1 l2 : Option Value) (y3 : Int32) (r : List Value) (σ : zk_S) (sz k c : Nat), zk_run E (zk_VT E) M_X5_dropAllOf (C_X5_dropAllOf E) P PX K (n + 1) 106 [l0, l1, l2, some (.int y3)] r (σ, sz, k, c) = zk_run E (zk_VT E) M_X5_dropAllOf (C_X5_dropAllOf E) P PX K n 107 [l0, l1, l2, some (.int y3)] (.int y3 :: r) (σ, sz, k, c)) ∧
  (∀ (n : Nat) (l0 l1 l2 l3 : Option Value) (a : Nat) (i : Int32) (r : List Value) (σ : zk_S) (sz k c : Nat), zk_run E (zk_VT E) M_X5_dropAllOf (C_X5_dropAllOf E) P PX K (n + 1) 107 [l0, l1, l2, l3] (.int i :: .ref a :: r) (σ, sz, k, c) = zk_qld (zk_view E σ a) i [zk_ar E 3, zk_ar E 4, zk_ar E 5, zk_ar E 6, zk_ar E 7] (fun x => (x = none → zk_run E (zk_VT E) M_X5_dropAllOf (C_X5_dropAllOf E) P PX K n 108 [l0, l1, l2, l3] (.null :: r) (σ, sz, k, c)) ∧ ∀ b, x = some b → zk_run E (zk_VT E) M_X5_dropAllOf (C_X5_dropAllOf E) P PX K n 108 [l0, l1, l2, l3] (.ref b :: r) (σ, sz, k, c))) ∧
  (∀ (n : Nat) (l0 l1 l2 l3 : Option Value) (v : Value) (r : List Value) (σ : zk_S) (sz k c : Nat), zk_run E (zk_VT E) M_X5_dropAllOf (C_X5_dropAllOf E) P PX K (n + 1) 108 [l0, l1, l2, l3] (v :: r) (σ, sz, k, c) = (zk_isr v ∧ (v = .null → zk_run E (zk_VT E) M_X5_dropAllOf (C_X5_dropAllOf E) P PX K n 134 [l0, l1, l2, l3] r (σ, sz, k, c)) ∧ (¬ (v = .null) → zk_run E (zk_VT E) M_X5_dropAllOf (C_X5_dropAllOf E) P PX K n 111 [l0, l1, l2, l3] r (σ, sz, k, c)))) ∧
  (∀ (n : Nat) (l1 l2 l3 : Option Value) (y0 : Value) (r : List Value) (σ : zk_S) (sz k c : Nat), zk_run E (zk_VT E) M_X5_dropAllOf (C_X5_dropAllOf E) P PX K (n + 1) 111 [some y0, l1, l2, l3] r (σ, sz, k, c) = (zk_isr y0 ∧ zk_run E (zk_VT E) M_X5_dropAllOf (C_X5_dropAllOf E) P PX K n 112 [some y0, l1, l2, l3] (y0 :: r) (σ, sz, k, c))) ∧
  (∀ (n : Nat) (l0 l1 l2 l3 : Option Value) (a : Nat) (r : List Value) (σ : zk_S) (sz k c : Nat), zk_run E (zk_VT E) M_X5_dropAllOf (C_X5_dropAllOf E) P PX K (n + 1) 112 [l0, l1, l2, l3] (.ref a :: r) (σ, sz, k, c) = zk_fld (zk_view E σ a) [4] 3 (fun v => zk_run E (zk_VT E) M_X5_dropAllOf (C_X5_dropAllOf E) P PX K n 115 [l0, l1, l2, l3] (v :: r) (σ, sz, k, c))) ∧
  (∀ (n : Nat) (l0 l1 l2 : Option Value) (y3 : Int32) (r : List Value) (σ : zk_S) (sz k c : Nat), zk_run E (zk_VT E) M_X5_dropAllOf (C_X5_dropAllOf E) P PX K (n + 1) 115 [l0, l1, l2, some (.int y3)] r (σ, sz, k, c) = zk_run E (zk_VT E) M_X5_dropAllOf (C_X5_dropAllOf E) P PX K n 116 [l0, l1, l2, some (.int y3)] (.int y3 :: r) (σ, sz, k, c)) ∧
  (∀ (n : Nat) (l0 l1 l2 l3 : Option Value) (a : Nat) (i : Int32) (r : List Value) (σ : zk_S) (sz k c : Nat), zk_run E (zk_VT E) M_X5_dropAllOf (C_X5_dropAllOf E) P PX K (n + 1) 116 [l0, l1, l2, l3] (.int i :: .ref a :: r) (σ, sz, k, c) = zk_qld (zk_view E σ a) i [zk_ar E 3, zk_ar E 4, zk_ar E 5, zk_ar E 6, zk_ar E 7] (fun x => (x = none → zk_run E (zk_VT E) M_X5_dropAllOf (C_X5_dropAllOf E) P PX K n 117 [l0, l1, l2, l3] (.null :: r) (σ, sz, k, c)) ∧ ∀ b, x = some b → zk_run E (zk_VT E) M_X5_dropAllOf (C_X5_dropAllOf E) P PX K n 117 [l0, l1, l2, l3] (.ref b :: r) (σ, sz, k, c))) ∧
  (∀ (n : Nat) (l0 l2 l3 : Option Value) (y1 : Value) (r : List Value) (σ : zk_S) (sz k c : Nat), zk_run E (zk_VT E) M_X5_dropAllOf (C_X5_dropAllOf E) P PX K (n + 1) 117 [l0, some y1, l2, l3] r (σ, sz, k, c) = (zk_isr y1 ∧ zk_run E (zk_VT E) M_X5_dropAllOf (C_X5_dropAllOf E) P PX K n 118 [l0, some y1, l2, l3] (y1 :: r) (σ, sz, k, c))) ∧
  (∀ (n : Nat) (l0 l1 l2 l3 : Option Value) (v0 : Value) (v1 : Value)  (σ : zk_S) (sz k c : Nat), zk_run E (zk_VT E) M_X5_dropAllOf (C_X5_dropAllOf E) P PX K (n + 1) 118 [l0, l1, l2, l3] [v0, v1] (σ, sz, k, c) = (k + 0 ≤ 0 ∧ c + 0 ≤ 0 ∧ (zk_rv (zk_VT E) (fun ci => Nat.beq ci 6) (sp_X2_isOf E)) [v1, v0] σ sz (fun v s2 z2 => zk_run E (zk_VT E) M_X5_dropAllOf (C_X5_dropAllOf E) P PX K n 121 [l0, l1, l2, l3] (zk_psh v []) (s2, z2, k + 0, c + 0)) (fun X s2 z2 => PX X s2 z2))) ∧
  (∀ (n : Nat) (l0 l1 l2 l3 : Option Value) (x : Int32) (r : List Value) (σ : zk_S) (sz k c : Nat), zk_run E (zk_VT E) M_X5_dropAllOf (C_X5_dropAllOf E) P PX K (n + 1) 121 [l0, l1, l2, l3] (.int x :: r) (σ, sz, k, c) = ((x = 0 → zk_run E (zk_VT E) M_X5_dropAllOf (C_X5_dropAllOf E) P PX K n 134 [l0, l1, l2, l3] r (σ, sz, k, c)) ∧ (¬ (x = 0) → zk_run E (zk_VT E) M_X5_dropAllOf (C_X5_dropAllOf E) P PX K n 124 [l0, l1, l2, l3] r (σ, sz, k, c)))) ∧
  (∀ (n : Nat) (l1 l2 l3 : Option Value) (y0 : Value) (r : List Value) (σ : zk_S) (sz k c : Nat), zk_run E (zk_VT E) M_X5_dropAllOf (C_X5_dropAllOf E) P PX K (n + 1) 124 [some y0, l1, l2, l3] r (σ, sz, k, c) = (zk_isr y0 ∧ zk_run E (zk_VT E) M_X5_dropAllOf (C_X5_dropAllOf E) P PX K n 125 [some y0, l1, l2, l3] (y0 :: r) (σ, sz, k, c))) ∧
  (∀ (n : Nat) (l0 l1 l2 l3 : Option Value) (a : Nat) (r : List Value) (σ : zk_S) (sz k c : Nat), zk_run E (zk_VT E) M_X5_dropAllOf (C_X5_dropAllOf E) P PX K (n + 1) 125 [l0, l1, l2, l3] (.ref a :: r) (σ, sz, k, c) = zk_fld (zk_view E σ a) [4] 3 (fun v => zk_run E (zk_VT E) M_X5_dropAllOf (C_X5_dropAllOf E) P PX K n 128 [l0, l1, l2, l3] (v :: r) (σ, sz, k, c))) ∧
  (∀ (n : Nat) (l0 l1 l2 : Option Value) (y3 : Int32) (r : List Value) (σ : zk_S) (sz k c : Nat), zk_run E (zk_VT E) M_X5_dropAllOf (C_X5_dropAllOf E) P PX K (n + 1) 128 [l0, l1, l2, some (.int y3)] r (σ, sz, k, c) = zk_run E (zk_VT E) M_X5_dropAllOf (C_X5_dropAllOf E) P PX K n 129 [l0, l1, l2, some (.int y3)] (.int y3 :: r) (σ, sz, k, c)) ∧
  (∀ (n : Nat) (l0 l1 l2 l3 : Option Value)  (r : List Value) (σ : zk_S) (sz k c : Nat), zk_run E (zk_VT E) M_X5_dropAllOf (C_X5_dropAllOf E) P PX K (n + 1) 129 [l0, l1, l2, l3] r (σ, sz, k, c) = zk_run E (zk_VT E) M_X5_dropAllOf (C_X5_dropAllOf E) P PX K n 130 [l0, l1, l2, l3] (.null :: r) (σ, sz, k, c)) ∧
  (∀ (n : Nat) (l0 l1 l2 l3 : Option Value) (a : Nat) (i : Int32) (r : List Value) (σ : zk_S) (sz k c : Nat), zk_run E (zk_VT E) M_X5_dropAllOf (C_X5_dropAllOf E) P PX K (n + 1) 130 [l0, l1, l2, l3] (.null :: .int i :: .ref a :: r) (σ, sz, k, c) = zk_qsn (zk_view E σ a) i [zk_ar E 3, zk_ar E 4, zk_ar E 5, zk_ar E 6] (fun e => zk_wrok E σ a e ∧ zk_run E (zk_VT E) M_X5_dropAllOf (C_X5_dropAllOf E) P PX K n 131 [l0, l1, l2, l3] r (zk_wr E σ a e, sz, k, c))) ∧
  (∀ (n : Nat) (l0 l1 l2 l3 : Option Value) (a v : Nat) (i : Int32) (r : List Value) (σ : zk_S) (sz k c : Nat), zk_run E (zk_VT E) M_X5_dropAllOf (C_X5_dropAllOf E) P PX K (n + 1) 130 [l0, l1, l2, l3] (.ref v :: .int i :: .ref a :: r) (σ, sz, k, c) = zk_qst E (zk_view E σ a) (zk_view E σ v) i v (fun e => zk_wrok E σ a e ∧ zk_run E (zk_VT E) M_X5_dropAllOf (C_X5_dropAllOf E) P PX K n 131 [l0, l1, l2, l3] r (zk_wr E σ a e, sz, k, c))) ∧
  (∀ (n : Nat) (l0 l1 l3 : Option Value) (y2 : Int32) (r : List Value) (σ : zk_S) (sz k c : Nat), zk_run E (zk_VT E) M_X5_dropAllOf (C_X5_dropAllOf E) P PX K (n + 1) 131 [l0, l1, some (.int y2), l3] r (σ, sz, k, c) = zk_run E (zk_VT E) M_X5_dropAllOf (C_X5_dropAllOf E) P PX K n 134 [l0, zk_kl l1, some (.int (y2 + 1)), l3] r (σ, sz, k, c)) ∧
  (∀ (n : Nat) (l0 l1 l2 : Option Value) (y3 : Int32) (r : List Value) (σ : zk_S) (sz k c : Nat), zk_run E (zk_VT E) M_X5_dropAllOf (C_X5_dropAllOf E) P PX K (n + 1) 134 [l0, l1, l2, some (.int y3)] r (σ, sz, k, c) = zk_run E (zk_VT E) M_X5_dropAllOf (C_X5_dropAllOf E) P PX K n 137 [l0, l1, zk_kl l2, some (.int (y3 + 1))] r (σ, sz, k, c)) ∧
  (∀ (n : Nat) (l0 l1 l2 l3 : Option Value)  (r : List Value) (σ : zk_S) (sz k c : Nat), zk_run E (zk_VT E) M_X5_dropAllOf (C_X5_dropAllOf E) P PX K (n + 1) 137 [l0, l1, l2, l3] r (σ, sz, k, c) = zk_run E (zk_VT E) M_X5_dropAllOf (C_X5_dropAllOf E) P PX K n 96 [l0, l1, l2, l3] r (σ, sz, k, c)) := ⟨by intros; rfl, by intros; rfl, by intros; rfl, by intros; rfl, by intros; rfl, by intros; rfl, by intros; rfl, by intros; rfl, by intros; rfl, by intros; rfl, by intros; rfl, by intros; rfl, by intros; rfl, by intros; rfl, by intros; rfl, by intros; rfl, by intros; rfl, by intros; rfl, by intros; rfl, by intros; rfl, by intros; rfl, by intros; rfl, by intros; rfl, by intros; rfl, by intros; rfl, by intros; rfl, by intros; rfl, by intros; rfl, by intros; rfl, by intros; rfl, by intros; rfl, by intros; rfl, by intros; rfl, by intros; rfl, by intros; rfl, by intros; rfl, by intros; rfl, by intros; rfl, by intros; rfl, by intros; rfl⟩
theorem r_X5_dropAllOf_2 (E : zk_E) (P : zk_P zk_S) (PX : zk_X zk_S) (K : Nat → zk_L → List Value → zk_W zk_S → Prop) : (∀ (n : Nat) (l0 l1 l3 : Option Value) (y2 : Int32) (r : List Value) (σ : zk_S) (sz k c : Nat), zk_run E (zk_VT E) M_X5_dropAllOf (C_X5_dropAllOf E) P PX K (n + 1) 140 [l0, l1, some (.int y2), l3] r (σ, sz, k, c) = zk_run E (zk_VT E) M_X5_dropAllOf (C_X5_dropAllOf E) P PX K n 141 [l0, l1, some (.int y2), l3] (.int y2 :: r) (σ, sz, k, c)) ∧
  (∀ (n : Nat) (l0 l1 l2 l3 : Option Value) (x : Int32)  (σ : zk_S) (sz k c : Nat), zk_run E (zk_VT E) M_X5_dropAllOf (C_X5_dropAllOf E) P PX K (n + 1) 141 [l0, l1, l2, l3] [.int x] (σ, sz, k, c) = (zk_nok (some (.int)) x ∧ P (some (.int x)) σ sz ∧ k ≤ 0 ∧ c ≤ 0)) ∧
  (∀ (n : Nat) (l0 l1 l2 l3 : Option Value) (r : List Value) (w : zk_W zk_S), zk_go E (zk_VT E) M_X5_dropAllOf (C_X5_dropAllOf E) P PX K n 0 [l0, l1, l2, l3] r w = zk_run E (zk_VT E) M_X5_dropAllOf (C_X5_dropAllOf E) P PX K (n + 1) 0 [l0, l1, l2, l3] r w) ∧
  (∀ (n : Nat) (l0 l1 l2 : Option Value) (y3 : Int32) (r : List Value) (σ : zk_S) (sz k c : Nat), zk_go E (zk_VT E) M_X5_dropAllOf (C_X5_dropAllOf E) P PX K n 4 [l0, l1, l2, some (.int y3)] r (σ, sz, k, c) = zk_run E (zk_VT E) M_X5_dropAllOf (C_X5_dropAllOf E) P PX K n 5 [l0, l1, l2, some (.int y3)] (.int y3 :: r) (σ, sz, k, c)) ∧
  (∀ (n : Nat) (l0 l1 l2 : Option Value) (y3 : Int32) (r : List Value) (σ : zk_S) (sz k c : Nat), zk_go E (zk_VT E) M_X5_dropAllOf (C_X5_dropAllOf E) P PX K n 50 [l0, l1, l2, some (.int y3)] r (σ, sz, k, c) = zk_run E (zk_VT E) M_X5_dropAllOf (C_X5_dropAllOf E) P PX K n 51 [l0, l1, l2, some (.int y3)] (.int y3 :: r) (σ, sz, k, c)) ∧
  (∀ (n : Nat) (l0 l1 l2 : Option Value) (y3 : Int32) (r : List Value) (σ : zk_S) (sz k c : Nat), zk_go E (zk_VT E) M_X5_dropAllOf (C_X5_dropAllOf E) P PX K n 96 [l0, l1, l2, some (.int y3)] r (σ, sz, k, c) = zk_run E (zk_VT E) M_X5_dropAllOf (C_X5_dropAllOf E) P PX K n 97 [l0, l1, l2, some (.int y3)] (.int y3 :: r) (σ, sz, k, c)) := ⟨by intros; rfl, by intros; rfl, by intros; rfl, by intros; rfl, by intros; rfl, by intros; rfl⟩
theorem vc_X5_dropAllOf (E : zk_E) : zk_VC E (zk_VT E) M_X5_dropAllOf (C_X5_dropAllOf E) 4 (sp_X5_dropAllOf E) := by
  intro av σ sz P PX h
  obtain ⟨J, N, Q, O, U⟩ := σ
  unfold sp_X5_dropAllOf at h
  split at h
  case h_2 => exact h.elim
  rename_i a0 b
  obtain ⟨rfl, h⟩ := h
  refine ⟨Nat.le_of_ble_eq_true rfl, fun G hG => ?_⟩
  change G 0 [some (.ref (zk_ad E 1)), some (.ref b), none, none] [] ((J, N, Q, O, U), sz, 0, 0)
  try dsimp only at h
  obtain ⟨hd, hw, ht, h⟩ := h
  have hd : DOK E Q O := hd
  have hw : WOK E Q O := hw
  have ht : TOK E Q O := ht
  unfold q_rm at h
  have er : ∀ x y : Nat, (Value.ref x = Value.ref y) = (x = y) := fun x y => by simp
  have loopS : ∀ m i, i + m = 10 → G 96 [some (.ref (zk_ad E 1)), some (.ref b), some (.int (nI (cntB (o_of (Q 3) O b) 40 + cntB (o_in (Q 4) O b) 40 + cntB (o_of (Q 5) O b) i))), some (.int (nI i))] [] ((J, N, zk_un (zk_un (zk_un Q 3 (rmO (o_of (Q 3) O b) 40 (Q 3))) 4 (rmO (o_in (Q 4) O b) 40 (Q 4))) 5 (rmO (o_of (Q 5) O b) i (Q 5)), O, U), sz, 0, 0) := by
    intro m
    induction m with
    | zero =>
      intro i hi
      have c1 : (10 : Int32) ≤ nI i := (nI_le (a := 10) (by omega) (by omega) : nI 10 ≤ nI i)
      have ei : i = 10 := by omega
      subst ei
      (refine hG 900 _ _ _ _ ?_; simp only [r_X5_dropAllOf, r_X5_dropAllOf_1, r_X5_dropAllOf_2, c1])
      exact h
    | succ m ih =>
      intro i hi
      have c1 : ¬ (10 : Int32) ≤ nI i := (nI_ge (b := 10) (by omega) (by decide) : ¬ nI 10 ≤ nI i)
      have hin : vp_in (nI i) 10 := n_in (by omega) (by decide)
      have hcl : (nI i).toNatClampNeg = i := n_cl (by omega)
      have ih2 := ih (i + 1) (by omega)
      have hat := rmO_at (o_of (Q 5) O b) i (Q 5)
      rw [cntB_succ _ i] at ih2
      cases q : Q 5 i with
      | none =>
        rw [q] at hat
        have e0 : o_of (Q 5) O b i = false := by unfold o_of; rw [q]
        rw [rmO_f _ e0, if_neg (by rw [e0]; decide), Nat.add_zero] at ih2
        (refine hG 900 _ _ _ _ ?_; simp only [r_X5_dropAllOf, r_X5_dropAllOf_1, r_X5_dropAllOf_2, c1, hin, hcl, hat, n_succ])
        exact ih2
      | some c =>
        rw [q] at hat
        obtain ⟨hc, f, t, mx, my, ln, fw, sh, rest, hO⟩ := ht i (by omega) c q
        have hX : isX (O c) := ⟨6, f, t, mx, my, ln, fw, sh, rest, Or.inr rfl, hO⟩
        have hi6 : ∀ k, zk_is (O c) k = (k 6 = true) := fun k => by rw [hO]; rfl
        have kk : Nat.beq 6 6 = true := rfl
        have ex : o_of (Q 5) O b i = x_of (O c) b := by unfold o_of; rw [q]
        cases e2 : x_of (O c) b with
        | true =>
          rw [e2] at ex
          rw [rmO_t _ ex, if_pos ex, ← Nat.add_assoc] at ih2
          (refine hG 900 _ _ _ _ ?_; simp only [r_X5_dropAllOf, r_X5_dropAllOf_1, r_X5_dropAllOf_2, c1, hin, hcl, hat, Bool.true_eq_false, zk_vd hc, hi6, kk, spe_X2_isOf, hc, hX, e2, zk_b0, n_succ])
          exact ih2
        | false =>
          rw [e2] at ex
          rw [rmO_f _ ex, if_neg (by rw [ex]; decide), Nat.add_zero] at ih2
          (refine hG 900 _ _ _ _ ?_; simp only [r_X5_dropAllOf, r_X5_dropAllOf_1, r_X5_dropAllOf_2, c1, hin, hcl, hat, Bool.true_eq_false, zk_vd hc, hi6, kk, spe_X2_isOf, hc, hX, e2, zk_b0, n_succ])
          exact ih2
  have loopW : ∀ m i, i + m = 40 → G 50 [some (.ref (zk_ad E 1)), some (.ref b), some (.int (nI (cntB (o_of (Q 3) O b) 40 + cntB (o_in (Q 4) O b) i))), some (.int (nI i))] [] ((J, N, zk_un (zk_un Q 3 (rmO (o_of (Q 3) O b) 40 (Q 3))) 4 (rmO (o_in (Q 4) O b) i (Q 4)), O, U), sz, 0, 0) := by
    intro m
    induction m with
    | zero =>
      intro i hi
      have c1 : (40 : Int32) ≤ nI i := (nI_le (a := 40) (by omega) (by omega) : nI 40 ≤ nI i)
      have ei : i = 40 := by omega
      subst ei
      have ls := loopS 10 0 (by omega)
      rw [rmO_0, show cntB (o_of (Q 5) O b) 0 = 0 from rfl, Nat.add_zero, show nI 0 = 0 from rfl] at ls
      rw [show zk_un (zk_un (zk_un Q 3 (rmO (o_of (Q 3) O b) 40 (Q 3))) 4 (rmO (o_in (Q 4) O b) 40 (Q 4))) 5 (Q 5) = zk_un (zk_un Q 3 (rmO (o_of (Q 3) O b) 40 (Q 3))) 4 (rmO (o_in (Q 4) O b) 40 (Q 4)) from zk_un_self (zk_un (zk_un Q 3 (rmO (o_of (Q 3) O b) 40 (Q 3))) 4 (rmO (o_in (Q 4) O b) 40 (Q 4))) 5] at ls
      (refine hG 900 _ _ _ _ ?_; simp only [r_X5_dropAllOf, r_X5_dropAllOf_1, r_X5_dropAllOf_2, c1])
      exact ls
    | succ m ih =>
      intro i hi
      have c1 : ¬ (40 : Int32) ≤ nI i := (nI_ge (b := 40) (by omega) (by decide) : ¬ nI 40 ≤ nI i)
      have hin : vp_in (nI i) 40 := n_in (by omega) (by decide)
      have hcl : (nI i).toNatClampNeg = i := n_cl (by omega)
      have ih2 := ih (i + 1) (by omega)
      have hat := rmO_at (o_in (Q 4) O b) i (Q 4)
      rw [cntB_succ _ i] at ih2
      cases q : Q 4 i with
      | none =>
        rw [q] at hat
        have e0 : o_in (Q 4) O b i = false := by unfold o_in; rw [q]
        rw [rmO_f _ e0, if_neg (by rw [e0]; decide), Nat.add_zero] at ih2
        (refine hG 900 _ _ _ _ ?_; simp only [r_X5_dropAllOf, r_X5_dropAllOf_1, r_X5_dropAllOf_2, c1, hin, hcl, hat, n_succ])
        exact ih2
      | some c =>
        rw [q] at hat
        exact (hw i (by omega) c q).elim
  have loopD : ∀ m i, i + m = 40 → G 4 [some (.ref (zk_ad E 1)), some (.ref b), some (.int (nI (cntB (o_of (Q 3) O b) i))), some (.int (nI i))] [] ((J, N, zk_un Q 3 (rmO (o_of (Q 3) O b) i (Q 3)), O, U), sz, 0, 0) := by
    intro m
    induction m with
    | zero =>
      intro i hi
      have c1 : (40 : Int32) ≤ nI i := (nI_le (a := 40) (by omega) (by omega) : nI 40 ≤ nI i)
      have ei : i = 40 := by omega
      subst ei
      have ls := loopW 40 0 (by omega)
      rw [rmO_0, show cntB (o_in (Q 4) O b) 0 = 0 from rfl, Nat.add_zero, show nI 0 = 0 from rfl] at ls
      rw [show zk_un (zk_un Q 3 (rmO (o_of (Q 3) O b) 40 (Q 3))) 4 (Q 4) = zk_un Q 3 (rmO (o_of (Q 3) O b) 40 (Q 3)) from zk_un_self (zk_un Q 3 (rmO (o_of (Q 3) O b) 40 (Q 3))) 4] at ls
      (refine hG 900 _ _ _ _ ?_; simp only [r_X5_dropAllOf, r_X5_dropAllOf_1, r_X5_dropAllOf_2, c1])
      exact ls
    | succ m ih =>
      intro i hi
      have c1 : ¬ (40 : Int32) ≤ nI i := (nI_ge (b := 40) (by omega) (by decide) : ¬ nI 40 ≤ nI i)
      have hin : vp_in (nI i) 40 := n_in (by omega) (by decide)
      have hcl : (nI i).toNatClampNeg = i := n_cl (by omega)
      have ih2 := ih (i + 1) (by omega)
      have hat := rmO_at (o_of (Q 3) O b) i (Q 3)
      rw [cntB_succ _ i] at ih2
      cases q : Q 3 i with
      | none =>
        rw [q] at hat
        have e0 : o_of (Q 3) O b i = false := by unfold o_of; rw [q]
        rw [rmO_f _ e0, if_neg (by rw [e0]; decide), Nat.add_zero] at ih2
        (refine hG 900 _ _ _ _ ?_; simp only [r_X5_dropAllOf, r_X5_dropAllOf_1, r_X5_dropAllOf_2, c1, hin, hcl, hat, n_succ])
        exact ih2
      | some c =>
        rw [q] at hat
        obtain ⟨hc, f, t, mx, my, ln, fw, sh, p, hO, -⟩ := hd i (by omega) c q
        have hX : isX (O c) := ⟨1, f, t, mx, my, ln, fw, sh, _, Or.inl rfl, hO⟩
        have hi6 : ∀ k, zk_is (O c) k = (k 1 = true) := fun k => by rw [hO]; rfl
        have kk : Nat.beq 1 1 = true := rfl
        have ex : o_of (Q 3) O b i = x_of (O c) b := by unfold o_of; rw [q]
        cases e2 : x_of (O c) b with
        | true =>
          rw [e2] at ex
          rw [rmO_t _ ex, if_pos ex] at ih2
          (refine hG 900 _ _ _ _ ?_; simp only [r_X5_dropAllOf, r_X5_dropAllOf_1, r_X5_dropAllOf_2, c1, hin, hcl, hat, Bool.true_eq_false, zk_vd hc, hi6, kk, spe_X2_isOf, hc, hX, e2, zk_b0, n_succ])
          exact ih2
        | false =>
          rw [e2] at ex
          rw [rmO_f _ ex, if_neg (by rw [ex]; decide), Nat.add_zero] at ih2
          (refine hG 900 _ _ _ _ ?_; simp only [r_X5_dropAllOf, r_X5_dropAllOf_1, r_X5_dropAllOf_2, c1, hin, hcl, hat, Bool.true_eq_false, zk_vd hc, hi6, kk, spe_X2_isOf, hc, hX, e2, zk_b0, n_succ])
          exact ih2
  have l0 := loopD 40 0 (by omega)
  rw [rmO_0, show cntB (o_of (Q 3) O b) 0 = 0 from rfl, show nI 0 = 0 from rfl, zk_un_self Q 3] at l0
  (refine hG 900 _ _ _ _ ?_; simp only [r_X5_dropAllOf, r_X5_dropAllOf_1, r_X5_dropAllOf_2])
  exact l0
theorem ct_X5_dropAllOf {l : Launch} (hl : l.stackTraces = false) (E : zk_E) : zk_C l E (zk_VT E) yX5_dropAllOf cX5_dropAllOf 4 (some (.int)) rm_X5_dropAllOf (sp_X5_dropAllOf E) := by
  refine zk_meth (M := M_X5_dropAllOf) (C := C_X5_dropAllOf E) hl (by decide +kernel) rfl (fun _ _ => rfl) (zk_VT_ok E) MO_X5_dropAllOf TO_X5_dropAllOf THo_X5_dropAllOf ?_ (vc_X5_dropAllOf E)
  exact fun p e s m args below meth c X pc n mc ms sp2 h => by
    have h2 := zk_lka_mem h
    simp only [List.mem_cons, List.not_mem_nil, or_false, Prod.mk.injEq] at h2
    rcases h2 with ⟨rfl, rfl, rfl, rfl, rfl⟩ | ⟨rfl, rfl, rfl, rfl, rfl⟩
    · exact zk_coU (idx := 103) (x := ⟨"ClerestoryPlan$Door", "isOf", "(LClerestoryPlan$Room;)Z"⟩) X (ct_X2_isOf hl E) (List.forall_mem_cons.mpr ⟨zk_wi 934 (by decide +kernel) rfl, List.forall_mem_cons.mpr ⟨zk_wi 935 (by decide +kernel) rfl, List.forall_mem_cons.mpr ⟨zk_wi 210 (by decide +kernel) rfl, List.forall_mem_cons.mpr ⟨zk_wi 16 (by decide +kernel) rfl, List.forall_mem_cons.mpr ⟨zk_wi 214 (by decide +kernel) rfl, fun _ h => absurd h List.not_mem_nil⟩⟩⟩⟩⟩) (fun ci h => by
      have h := Nat.eq_of_beq_eq_true h
      subst h
      exact ⟨_, _, _, rfl, zk_wi 937 (by decide +kernel) rfl⟩) rfl (by decide +kernel) ⟨by decide, by decide, by decide +kernel⟩ ⟨by decide, by decide⟩
    · exact zk_coU (idx := 104) (x := ⟨"ClerestoryPlan$Stairs", "isOf", "(LClerestoryPlan$Room;)Z"⟩) X (ct_X2_isOf hl E) (List.forall_mem_cons.mpr ⟨zk_wi 938 (by decide +kernel) rfl, List.forall_mem_cons.mpr ⟨zk_wi 939 (by decide +kernel) rfl, List.forall_mem_cons.mpr ⟨zk_wi 210 (by decide +kernel) rfl, List.forall_mem_cons.mpr ⟨zk_wi 16 (by decide +kernel) rfl, List.forall_mem_cons.mpr ⟨zk_wi 214 (by decide +kernel) rfl, fun _ h => absurd h List.not_mem_nil⟩⟩⟩⟩⟩) (fun ci h => by
      have h := Nat.eq_of_beq_eq_true h
      subst h
      exact ⟨_, _, _, rfl, zk_wi 940 (by decide +kernel) rfl⟩) rfl (by decide +kernel) ⟨by decide, by decide, by decide +kernel⟩ ⟨by decide, by decide⟩


