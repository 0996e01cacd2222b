/-! the class: depthOf, reckonDepths, addLoadOf, reckonLoads, countStuck -/
/-- the leavings, and how far, are told of the rooms -/
def WLv (J N N1 : Nat → Nat → Int32) : Prop := ∀ k, k < 20 → N1 11 k = bex (lea J N k)
section XRS
variable {E : zk_E} {sz : Nat} {J N J1 N1 : Nat → Nat → Int32} {Q : Nat → Nat → Option Nat} {O : zk_Hp} {U : zk_U} {fl : Nat → Int32}
theorem act_mx {e : Nat} (he : e ∈ m_act J N) : MX J N (e / 2) ∧ eo N (e / 2) := by
  refine Classical.byContradiction fun w => ?_
  obtain ⟨f1, f2⟩ := from_no (J := J) (N := N) w
  rcases Nat.mod_two_eq_zero_or_one e with z | z
  · rw [show 2 * (e / 2) = e by omega] at f1; exact (m_act_mem.mp he).2 f1
  · rw [show 2 * (e / 2) + 1 = e by omega] at f2; exact (m_act_mem.mp he).2 f2
/-- where an exit leads, as the class asks it -/
theorem XR.oth (h : XR E sz (J1, N1, Q, O, U) J N fl) (hmi : MI J N) {e q a : Nat} (he : e ∈ m_act J N) (hq : MR J N q) (hf : m_from J N e = nI q) (ha : Q 2 q = some a) : ∃ c, xat Q (e / 2) = some c ∧ OKA E sz c ∧ isX (O c) ∧ (∃ ci, (ci = 1 ∨ ci = 6) ∧ ∀ k, zk_is (O c) k = (k ci = true)) ∧ x_oth (O c) a = rq Q (m_into N e) := by
  have he100 := (m_act_mem.mp he).1
  have hq20 := hq.lt hmi
  obtain ⟨hMX, ho⟩ := act_mx he
  cases z : xat Q (e / 2) with
  | none => exact absurd hMX ((h.exn (by omega)).mp z)
  | some c =>
    obtain ⟨-, hca, ci, fw, sh, rest, hci, hOc, -, -⟩ := h.ex (by omega) z
    have hOc : O c = some (cX ci (rq Q (ef N (e / 2))) (rq Q (et N (e / 2))) (m_px N (2 * (e / 2))) (m_py N (2 * (e / 2))) (nI (steep (2 * (e / 2)))) fw sh rest) := hOc
    refine ⟨c, rfl, hca, by rw [hOc]; exact ⟨ci, _, _, _, _, _, _, _, _, hci, rfl⟩, ⟨ci, hci, fun k => by rw [hOc]; rfl⟩, ?_⟩
    obtain ⟨f1, f2⟩ := from_yes hmi hMX ho
    obtain ⟨i1, i2⟩ := into_e N (e / 2)
    obtain ⟨r, r1, r2, r3⟩ := ends_e hmi hMX
    have r20 := r1.lt hmi
    have q1 := h.2.1.rqe hmi (x := ef N (e / 2)) (Or.inr ⟨r, r1, r2⟩) hq ha
    unfold x_oth
    rw [hOc]
    simp only [fR_X]
    rcases Nat.mod_two_eq_zero_or_one e with w | w
    · rw [show 2 * (e / 2) = e by omega] at f1 i1
      rw [i1, if_pos]
      rw [q1, ← f1]; exact hf
    · rw [show 2 * (e / 2) + 1 = e by omega] at f2 i2
      rw [i2, if_neg]
      rw [q1]
      intro y
      rw [f2] at hf
      rw [r2, n_inj (by omega) (by omega)] at y
      rcases r3 with r3 | ⟨q', a1, a2, a3⟩
      · rw [if_pos r3] at hf; exact nI_ne2 (r := q) (by omega) hf.symm
      · have := a1.lt hmi
        rw [a3, if_neg (nI_ne1 (by omega)), n_inj (by omega) (by omega)] at hf
        omega
end XRS
def sp_X8_depthOf (E : zk_E) : zk_Sp zk_S := fun av σ sz P PX => match av with
  | [.ref a, .ref p, o] => a = zk_ad E 7 ∧ p = zk_ad E 1 ∧ ∃ J N fl k, MI J N ∧ XR E sz σ J N fl ∧ WLv J N σ.2.1 ∧ k < 20 ∧ o = va_rf (σ.2.2.1 2 k) ∧ P (some (.int (g_deep J N k))) σ sz
  | _ => False
theorem spe_X8_depthOf (E : zk_E) (a : Nat) (p : Nat) (o : Value) (σ : zk_S) (sz : Nat) (P : zk_P zk_S) (PX : zk_X zk_S) : sp_X8_depthOf E [.ref a, .ref p, o] σ sz P PX = (a = zk_ad E 7 ∧ p = zk_ad E 1 ∧ ∃ J N fl k, MI J N ∧ XR E sz σ J N fl ∧ WLv J N σ.2.1 ∧ k < 20 ∧ o = va_rf (σ.2.2.1 2 k) ∧ P (some (.int (g_deep J N k))) σ sz) := propext Iff.rfl
def C_X8_depthOf (E : zk_E) : zk_Cl zk_S := zk_lka [(38, 2, 0, 0, zk_rv (zk_VT E) (fun ci => Nat.beq ci 4) (sp_X5_exitAt E)), (53, 2, 0, 0, zk_rv (zk_VT E) (fun ci => Nat.beq ci 1 || Nat.beq ci 6) (sp_X2_otherThan E))]
theorem r_X8_depthOf (E : zk_E) (P : zk_P zk_S) (PX : zk_X zk_S) (K : Nat → zk_L → List Value → zk_W zk_S → Prop) : (∀ (n : Nat) (l0 l1 l3 l4 l5 : Option Value) (y2 : Value) (r : List Value) (σ : zk_S) (sz k c : Nat), zk_run E (zk_VT E) M_X8_depthOf (C_X8_depthOf E) P PX K (n + 1) 0 [l0, l1, some y2, l3, l4, l5] r (σ, sz, k, c) = (zk_isr y2 ∧ zk_run E (zk_VT E) M_X8_depthOf (C_X8_depthOf E) P PX K n 1 [l0, l1, some y2, l3, l4, l5] (y2 :: r) (σ, sz, k, c))) ∧
  (∀ (n : Nat) (l0 l1 l2 l3 l4 l5 : Option Value) (x : Value) (r : List Value) (σ : zk_S) (sz k c : Nat), zk_run E (zk_VT E) M_X8_depthOf (C_X8_depthOf E) P PX K (n + 1) 1 [l0, l1, l2, l3, l4, l5] (x :: r) (σ, sz, k, c) = (zk_isr x ∧ zk_run E (zk_VT E) M_X8_depthOf (C_X8_depthOf E) P PX K n 2 [l0, l1, zk_kl l2, some (x), l4, l5] r (σ, sz, k, c))) ∧
  (∀ (n : Nat) (l0 l1 l2 l3 l4 l5 : Option Value)  (r : List Value) (σ : zk_S) (sz k c : Nat), zk_run E (zk_VT E) M_X8_depthOf (C_X8_depthOf E) P PX K (n + 1) 2 [l0, l1, l2, l3, l4, l5] r (σ, sz, k, c) = zk_run E (zk_VT E) M_X8_depthOf (C_X8_depthOf E) P PX K n 3 [l0, l1, l2, l3, l4, l5] (.int (0) :: r) (σ, sz, k, c)) ∧
  (∀ (n : Nat) (l0 l1 l2 l3 l4 l5 : Option Value) (x : Int32) (r : List Value) (σ : zk_S) (sz k c : Nat), zk_run E (zk_VT E) M_X8_depthOf (C_X8_depthOf E) P PX K (n + 1) 3 [l0, l1, l2, l3, l4, l5] (.int x :: r) (σ, sz, k, c) = zk_run E (zk_VT E) M_X8_depthOf (C_X8_depthOf E) P PX K n 5 [l0, l1, l2, zk_kl l3, some (.int x), l5] r (σ, sz, k, c)) ∧
  (∀ (n : Nat) (l0 l1 l2 l3 l4 l5 : Option Value)  (r : List Value) (σ : zk_S) (sz k c : Nat), zk_run E (zk_VT E) M_X8_depthOf (C_X8_depthOf E) P PX K (n + 1) 5 [l0, l1, l2, l3, l4, l5] r (σ, sz, k, c) = K 5 [l0, l1, l2, l3, l4, l5] r (σ, sz, k, c)) ∧
  (∀ (n : Nat) (l0 l1 l2 l3 l4 l5 : Option Value)  (r : List Value) (σ : zk_S) (sz k c : Nat), zk_run E (zk_VT E) M_X8_depthOf (C_X8_depthOf E) P PX K (n + 1) 7 [l0, l1, l2, l3, l4, l5] r (σ, sz, k, c) = zk_run E (zk_VT E) M_X8_depthOf (C_X8_depthOf E) P PX K n 9 [l0, l1, l2, l3, l4, l5] (.int (20) :: r) (σ, sz, k, c)) ∧
  (∀ (n : Nat) (l0 l1 l2 l3 l4 l5 : Option Value) (x y : Int32) (r : List Value) (σ : zk_S) (sz k c : Nat), zk_run E (zk_VT E) M_X8_depthOf (C_X8_depthOf E) P PX K (n + 1) 9 [l0, l1, l2, l3, l4, l5] (.int y :: .int x :: r) (σ, sz, k, c) = ((y < x → zk_run E (zk_VT E) M_X8_depthOf (C_X8_depthOf E) P PX K n 63 [l0, l1, l2, l3, l4, l5] r (σ, sz, k, c)) ∧ (¬ (y < x) → zk_run E (zk_VT E) M_X8_depthOf (C_X8_depthOf E) P PX K n 12 [l0, l1, l2, l3, l4, l5] r (σ, sz, k, c)))) ∧
  (∀ (n : Nat) (l0 l1 l2 l4 l5 : Option Value) (y3 : Value) (r : List Value) (σ : zk_S) (sz k c : Nat), zk_run E (zk_VT E) M_X8_depthOf (C_X8_depthOf E) P PX K (n + 1) 12 [l0, l1, l2, some y3, l4, l5] r (σ, sz, k, c) = (zk_isr y3 ∧ zk_run E (zk_VT E) M_X8_depthOf (C_X8_depthOf E) P PX K n 13 [l0, l1, l2, some y3, l4, l5] (y3 :: r) (σ, sz, k, c))) ∧
  (∀ (n : Nat) (l0 l1 l2 l3 l4 l5 : Option Value) (v : Value) (r : List Value) (σ : zk_S) (sz k c : Nat), zk_run E (zk_VT E) M_X8_depthOf (C_X8_depthOf E) P PX K (n + 1) 13 [l0, l1, l2, l3, l4, l5] (v :: r) (σ, sz, k, c) = (zk_isr v ∧ (¬ v = .null → zk_run E (zk_VT E) M_X8_depthOf (C_X8_depthOf E) P PX K n 28 [l0, l1, l2, l3, l4, l5] r (σ, sz, k, c)) ∧ (¬ (¬ v = .null) → zk_run E (zk_VT E) M_X8_depthOf (C_X8_depthOf E) P PX K n 16 [l0, l1, l2, l3, l4, l5] r (σ, sz, k, c)))) ∧
  (∀ (n : Nat) (l0 l1 l2 l3 l5 : Option Value) (y4 : Int32) (r : List Value) (σ : zk_S) (sz k c : Nat), zk_run E (zk_VT E) M_X8_depthOf (C_X8_depthOf E) P PX K (n + 1) 16 [l0, l1, l2, l3, some (.int y4), l5] r (σ, sz, k, c) = zk_run E (zk_VT E) M_X8_depthOf (C_X8_depthOf E) P PX K n 18 [l0, l1, l2, l3, some (.int y4), l5] (.int y4 :: r) (σ, sz, k, c)) ∧
  (∀ (n : Nat) (l0 l1 l2 l3 l4 l5 : Option Value) (x : Int32) (r : List Value) (σ : zk_S) (sz k c : Nat), zk_run E (zk_VT E) M_X8_depthOf (C_X8_depthOf E) P PX K (n + 1) 18 [l0, l1, l2, l3, l4, l5] (.int x :: r) (σ, sz, k, c) = ((¬ x = 0 → zk_run E (zk_VT E) M_X8_depthOf (C_X8_depthOf E) P PX K n 25 [l0, l1, l2, l3, l4, l5] r (σ, sz, k, c)) ∧ (¬ (¬ x = 0) → zk_run E (zk_VT E) M_X8_depthOf (C_X8_depthOf E) P PX K n 21 [l0, l1, l2, l3, l4, l5] r (σ, sz, k, c)))) ∧
  (∀ (n : Nat) (l0 l1 l2 l3 l4 l5 : Option Value)  (r : List Value) (σ : zk_S) (sz k c : Nat), zk_run E (zk_VT E) M_X8_depthOf (C_X8_depthOf E) P PX K (n + 1) 21 [l0, l1, l2, l3, l4, l5] r (σ, sz, k, c) = zk_run E (zk_VT E) M_X8_depthOf (C_X8_depthOf E) P PX K n 22 [l0, l1, l2, l3, l4, l5] (.int ((-1)) :: r) (σ, sz, k, c)) ∧
  (∀ (n : Nat) (l0 l1 l2 l3 l4 l5 : Option Value)  (r : List Value) (σ : zk_S) (sz k c : Nat), zk_run E (zk_VT E) M_X8_depthOf (C_X8_depthOf E) P PX K (n + 1) 22 [l0, l1, l2, l3, l4, l5] r (σ, sz, k, c) = zk_run E (zk_VT E) M_X8_depthOf (C_X8_depthOf E) P PX K n 27 [l0, l1, l2, l3, l4, l5] r (σ, sz, k, c)) ∧
  (∀ (n : Nat) (l0 l1 l2 l3 l5 : Option Value) (y4 : Int32) (r : List Value) (σ : zk_S) (sz k c : Nat), zk_run E (zk_VT E) M_X8_depthOf (C_X8_depthOf E) P PX K (n + 1) 25 [l0, l1, l2, l3, some (.int y4), l5] r (σ, sz, k, c) = zk_run E (zk_VT E) M_X8_depthOf (C_X8_depthOf E) P PX K n 27 [l0, l1, l2, l3, some (.int y4), l5] (.int y4 :: r) (σ, sz, k, c)) ∧
  (∀ (n : Nat) (l0 l1 l2 l3 l4 l5 : Option Value) (x : Int32)  (σ : zk_S) (sz k c : Nat), zk_run E (zk_VT E) M_X8_depthOf (C_X8_depthOf E) P PX K (n + 1) 27 [l0, l1, l2, l3, l4, l5] [.int x] (σ, sz, k, c) = (zk_nok (some (.int)) x ∧ P (some (.int x)) σ sz ∧ k ≤ 0 ∧ c ≤ 0)) ∧
  (∀ (n : Nat) (l0 l2 l3 l4 l5 : Option Value) (y1 : Value) (r : List Value) (σ : zk_S) (sz k c : Nat), zk_run E (zk_VT E) M_X8_depthOf (C_X8_depthOf E) P PX K (n + 1) 28 [l0, some y1, l2, l3, l4, l5] r (σ, sz, k, c) = (zk_isr y1 ∧ zk_run E (zk_VT E) M_X8_depthOf (C_X8_depthOf E) P PX K n 29 [l0, some y1, l2, l3, l4, l5] (y1 :: r) (σ, sz, k, c))) ∧
  (∀ (n : Nat) (l1 l2 l3 l4 l5 : Option Value) (y0 : Value) (r : List Value) (σ : zk_S) (sz k c : Nat), zk_run E (zk_VT E) M_X8_depthOf (C_X8_depthOf E) P PX K (n + 1) 29 [some y0, l1, l2, l3, l4, l5] r (σ, sz, k, c) = (zk_isr y0 ∧ zk_run E (zk_VT E) M_X8_depthOf (C_X8_depthOf E) P PX K n 30 [some y0, l1, l2, l3, l4, l5] (y0 :: r) (σ, sz, k, c))) ∧
  (∀ (n : Nat) (l0 l1 l2 l3 l4 l5 : Option Value) (a : Nat) (r : List Value) (σ : zk_S) (sz k c : Nat), zk_run E (zk_VT E) M_X8_depthOf (C_X8_depthOf E) P PX K (n + 1) 30 [l0, l1, l2, l3, l4, l5] (.ref a :: r) (σ, sz, k, c) = zk_fld (zk_view E σ a) [7] 3 (fun v => zk_run E (zk_VT E) M_X8_depthOf (C_X8_depthOf E) P PX K n 33 [l0, l1, l2, l3, l4, l5] (v :: r) (σ, sz, k, c))) ∧
  (∀ (n : Nat) (l0 l1 l2 l4 l5 : Option Value) (y3 : Value) (r : List Value) (σ : zk_S) (sz k c : Nat), zk_run E (zk_VT E) M_X8_depthOf (C_X8_depthOf E) P PX K (n + 1) 33 [l0, l1, l2, some y3, l4, l5] r (σ, sz, k, c) = (zk_isr y3 ∧ zk_run E (zk_VT E) M_X8_depthOf (C_X8_depthOf E) P PX K n 34 [l0, l1, l2, some y3, l4, l5] (y3 :: r) (σ, sz, k, c))) ∧
  (∀ (n : Nat) (l0 l1 l2 l3 l4 l5 : Option Value) (a : Nat) (r : List Value) (σ : zk_S) (sz k c : Nat), zk_run E (zk_VT E) M_X8_depthOf (C_X8_depthOf E) P PX K (n + 1) 34 [l0, l1, l2, l3, l4, l5] (.ref a :: r) (σ, sz, k, c) = zk_fld (zk_view E σ a) [5] 0 (fun v => zk_run E (zk_VT E) M_X8_depthOf (C_X8_depthOf E) P PX K n 37 [l0, l1, l2, l3, l4, l5] (v :: r) (σ, sz, k, c))) ∧
  (∀ (n : Nat) (l0 l1 l2 l3 l4 l5 : Option Value) (a : Nat) (i : Int32) (r : List Value) (σ : zk_S) (sz k c : Nat), zk_run E (zk_VT E) M_X8_depthOf (C_X8_depthOf E) P PX K (n + 1) 37 [l0, l1, l2, l3, l4, l5] (.int i :: .ref a :: r) (σ, sz, k, c) = zk_ild (zk_view E σ a) (zk_ar E 0) i (fun x => zk_run E (zk_VT E) M_X8_depthOf (C_X8_depthOf E) P PX K n 38 [l0, l1, l2, l3, l4, l5] (.int x :: r) (σ, sz, k, c))) ∧
  (∀ (n : Nat) (l0 l1 l2 l3 l4 l5 : Option Value) (v0 : Value) (v1 : Value)  (σ : zk_S) (sz k c : Nat), zk_run E (zk_VT E) M_X8_depthOf (C_X8_depthOf E) P PX K (n + 1) 38 [l0, l1, l2, l3, l4, l5] [v0, v1] (σ, sz, k, c) = (k + 0 ≤ 0 ∧ c + 0 ≤ 0 ∧ (zk_rv (zk_VT E) (fun ci => Nat.beq ci 4) (sp_X5_exitAt E)) [v1, v0] σ sz (fun v s2 z2 => zk_run E (zk_VT E) M_X8_depthOf (C_X8_depthOf E) P PX K n 41 [l0, l1, l2, l3, l4, l5] (zk_psh v []) (s2, z2, k + 0, c + 0)) (fun X s2 z2 => PX X s2 z2))) ∧
  (∀ (n : Nat) (l0 l1 l2 l3 l4 l5 : Option Value) (x : Value) (r : List Value) (σ : zk_S) (sz k c : Nat), zk_run E (zk_VT E) M_X8_depthOf (C_X8_depthOf E) P PX K (n + 1) 41 [l0, l1, l2, l3, l4, l5] (x :: r) (σ, sz, k, c) = (zk_isr x ∧ zk_run E (zk_VT E) M_X8_depthOf (C_X8_depthOf E) P PX K n 43 [l0, l1, l2, l3, zk_kl l4, some (x)] r (σ, sz, k, c))) ∧
  (∀ (n : Nat) (l0 l1 l2 l3 l4 : Option Value) (y5 : Value) (r : List Value) (σ : zk_S) (sz k c : Nat), zk_run E (zk_VT E) M_X8_depthOf (C_X8_depthOf E) P PX K (n + 1) 43 [l0, l1, l2, l3, l4, some y5] r (σ, sz, k, c) = (zk_isr y5 ∧ zk_run E (zk_VT E) M_X8_depthOf (C_X8_depthOf E) P PX K n 45 [l0, l1, l2, l3, l4, some y5] (y5 :: r) (σ, sz, k, c))) ∧
  (∀ (n : Nat) (l0 l1 l2 l3 l4 l5 : Option Value) (v : Value) (r : List Value) (σ : zk_S) (sz k c : Nat), zk_run E (zk_VT E) M_X8_depthOf (C_X8_depthOf E) P PX K (n + 1) 45 [l0, l1, l2, l3, l4, l5] (v :: r) (σ, sz, k, c) = (zk_isr v ∧ (¬ v = .null → zk_run E (zk_VT E) M_X8_depthOf (C_X8_depthOf E) P PX K n 50 [l0, l1, l2, l3, l4, l5] r (σ, sz, k, c)) ∧ (¬ (¬ v = .null) → zk_run E (zk_VT E) M_X8_depthOf (C_X8_depthOf E) P PX K n 48 [l0, l1, l2, l3, l4, l5] r (σ, sz, k, c)))) ∧
  (∀ (n : Nat) (l0 l1 l2 l3 l4 l5 : Option Value)  (r : List Value) (σ : zk_S) (sz k c : Nat), zk_run E (zk_VT E) M_X8_depthOf (C_X8_depthOf E) P PX K (n + 1) 48 [l0, l1, l2, l3, l4, l5] r (σ, sz, k, c) = zk_run E (zk_VT E) M_X8_depthOf (C_X8_depthOf E) P PX K n 49 [l0, l1, l2, l3, l4, l5] (.int ((-1)) :: r) (σ, sz, k, c)) ∧
  (∀ (n : Nat) (l0 l1 l2 l3 l4 l5 : Option Value) (x : Int32)  (σ : zk_S) (sz k c : Nat), zk_run E (zk_VT E) M_X8_depthOf (C_X8_depthOf E) P PX K (n + 1) 49 [l0, l1, l2, l3, l4, l5] [.int x] (σ, sz, k, c) = (zk_nok (some (.int)) x ∧ P (some (.int x)) σ sz ∧ k ≤ 0 ∧ c ≤ 0)) ∧
  (∀ (n : Nat) (l0 l1 l2 l3 l4 : Option Value) (y5 : Value) (r : List Value) (σ : zk_S) (sz k c : Nat), zk_run E (zk_VT E) M_X8_depthOf (C_X8_depthOf E) P PX K (n + 1) 50 [l0, l1, l2, l3, l4, some y5] r (σ, sz, k, c) = (zk_isr y5 ∧ zk_run E (zk_VT E) M_X8_depthOf (C_X8_depthOf E) P PX K n 52 [l0, l1, l2, l3, l4, some y5] (y5 :: r) (σ, sz, k, c))) ∧
  (∀ (n : Nat) (l0 l1 l2 l4 l5 : Option Value) (y3 : Value) (r : List Value) (σ : zk_S) (sz k c : Nat), zk_run E (zk_VT E) M_X8_depthOf (C_X8_depthOf E) P PX K (n + 1) 52 [l0, l1, l2, some y3, l4, l5] r (σ, sz, k, c) = (zk_isr y3 ∧ zk_run E (zk_VT E) M_X8_depthOf (C_X8_depthOf E) P PX K n 53 [l0, l1, l2, some y3, l4, l5] (y3 :: r) (σ, sz, k, c))) ∧
  (∀ (n : Nat) (l0 l1 l2 l3 l4 l5 : Option Value) (v0 : Value) (v1 : Value)  (σ : zk_S) (sz k c : Nat), zk_run E (zk_VT E) M_X8_depthOf (C_X8_depthOf E) P PX K (n + 1) 53 [l0, l1, l2, l3, l4, l5] [v0, v1] (σ, sz, k, c) = (k + 0 ≤ 0 ∧ c + 0 ≤ 0 ∧ (zk_rv (zk_VT E) (fun ci => Nat.beq ci 1 || Nat.beq ci 6) (sp_X2_otherThan E)) [v1, v0] σ sz (fun v s2 z2 => zk_run E (zk_VT E) M_X8_depthOf (C_X8_depthOf E) P PX K n 56 [l0, l1, l2, l3, l4, l5] (zk_psh v []) (s2, z2, k + 0, c + 0)) (fun X s2 z2 => PX X s2 z2))) ∧
  (∀ (n : Nat) (l0 l1 l2 l3 l4 l5 : Option Value) (x : Value) (r : List Value) (σ : zk_S) (sz k c : Nat), zk_run E (zk_VT E) M_X8_depthOf (C_X8_depthOf E) P PX K (n + 1) 56 [l0, l1, l2, l3, l4, l5] (x :: r) (σ, sz, k, c) = (zk_isr x ∧ zk_run E (zk_VT E) M_X8_depthOf (C_X8_depthOf E) P PX K n 57 [l0, l1, zk_kl l2, some (x), l4, l5] r (σ, sz, k, c))) ∧
  (∀ (n : Nat) (l0 l1 l2 l3 l5 : Option Value) (y4 : Int32) (r : List Value) (σ : zk_S) (sz k c : Nat), zk_run E (zk_VT E) M_X8_depthOf (C_X8_depthOf E) P PX K (n + 1) 57 [l0, l1, l2, l3, some (.int y4), l5] r (σ, sz, k, c) = zk_run E (zk_VT E) M_X8_depthOf (C_X8_depthOf E) P PX K n 60 [l0, l1, l2, zk_kl l3, some (.int (y4 + 1)), l5] r (σ, sz, k, c)) ∧
  (∀ (n : Nat) (l0 l1 l2 l3 l4 l5 : Option Value)  (r : List Value) (σ : zk_S) (sz k c : Nat), zk_run E (zk_VT E) M_X8_depthOf (C_X8_depthOf E) P PX K (n + 1) 60 [l0, l1, l2, l3, l4, l5] r (σ, sz, k, c) = zk_run E (zk_VT E) M_X8_depthOf (C_X8_depthOf E) P PX K n 5 [l0, l1, l2, l3, l4, l5] r (σ, sz, k, c)) ∧
  (∀ (n : Nat) (l0 l1 l2 l3 l4 l5 : Option Value)  (r : List Value) (σ : zk_S) (sz k c : Nat), zk_run E (zk_VT E) M_X8_depthOf (C_X8_depthOf E) P PX K (n + 1) 63 [l0, l1, l2, l3, l4, l5] r (σ, sz, k, c) = zk_run E (zk_VT E) M_X8_depthOf (C_X8_depthOf E) P PX K n 64 [l0, l1, l2, l3, l4, l5] (.int ((-1)) :: r) (σ, sz, k, c)) ∧
  (∀ (n : Nat) (l0 l1 l2 l3 l4 l5 : Option Value) (x : Int32)  (σ : zk_S) (sz k c : Nat), zk_run E (zk_VT E) M_X8_depthOf (C_X8_depthOf E) P PX K (n + 1) 64 [l0, l1, l2, l3, l4, l5] [.int x] (σ, sz, k, c) = (zk_nok (some (.int)) x ∧ P (some (.int x)) σ sz ∧ k ≤ 0 ∧ c ≤ 0)) ∧
  (∀ (n : Nat) (l0 l1 l2 l3 l4 l5 : Option Value) (r : List Value) (w : zk_W zk_S), zk_go E (zk_VT E) M_X8_depthOf (C_X8_depthOf E) P PX K n 0 [l0, l1, l2, l3, l4, l5] r w = zk_run E (zk_VT E) M_X8_depthOf (C_X8_depthOf E) P PX K (n + 1) 0 [l0, l1, l2, l3, l4, l5] r w) ∧
  (∀ (n : Nat) (l0 l1 l2 l3 l5 : Option Value) (y4 : Int32) (r : List Value) (σ : zk_S) (sz k c : Nat), zk_go E (zk_VT E) M_X8_depthOf (C_X8_depthOf E) P PX K n 5 [l0, l1, l2, l3, some (.int y4), l5] r (σ, sz, k, c) = zk_run E (zk_VT E) M_X8_depthOf (C_X8_depthOf E) P PX K n 7 [l0, l1, l2, l3, some (.int y4), l5] (.int y4 :: r) (σ, sz, k, c)) := ⟨by intros; rfl, by intros; rfl, by intros; rfl, by intros; rfl, by intros; rfl, by intros; rfl, by intros; rfl, by intros; rfl, by intros; rfl, by intros; rfl, by intros; rfl, by intros; rfl, by intros; rfl, by intros; rfl, by intros; rfl, by intros; rfl, by intros; rfl, by intros; rfl, by intros; rfl, by intros; rfl, by intros; rfl, by intros; rfl, by intros; rfl, by intros; rfl, by intros; rfl, by intros; rfl, by intros; rfl, by intros; rfl, by intros; rfl, by intros; rfl, by intros; rfl, by intros; rfl, by intros; rfl, by intros; rfl, by intros; rfl, by intros; rfl, by intros; rfl⟩
theorem vc_X8_depthOf (E : zk_E) : zk_VC E (zk_VT E) M_X8_depthOf (C_X8_depthOf E) 6 (sp_X8_depthOf E) := by
  intro av σ sz P PX h
  obtain ⟨J, N, Q, O, U⟩ := σ
  unfold sp_X8_depthOf at h
  split at h
  case h_2 => exact h.elim
  rename_i a0 p o
  obtain ⟨rfl, h⟩ := h
  try dsimp only at h
  obtain ⟨rfl, J1, N1, fl, k, hmi, hxr, hwl, hk, rfl, h⟩ := h
  cases hb : Q 2 k with
  | none =>
    refine ⟨Nat.le_of_ble_eq_true rfl, fun G hG => ?_⟩
    change G 0 [some (.ref (zk_ad E 7)), some (.ref (zk_ad E 1)), some .null, none, none, none] [] ((J, N, Q, O, U), sz, 0, 0)
    have hj : ¬ MR J1 N1 k := fun w => by
      obtain ⟨a, h1, -⟩ := hxr.2.1.room hmi w
      exact absurd (hb.symm.trans h1) (by simp)
    have l1 : lea J1 N1 k = 100 := by unfold lea; rw [bb_gone hmi hk hj]
    have e0 : g_deep J1 N1 k = -1 := by
      unfold g_deep
      rw [g_dep_eq, if_neg (nI_ne1 (by omega)), n_cl (by omega), if_pos l1]
    rw [e0] at h
    have c1 : ¬ (20 : Int32) < 0 := by decide
    have g0 : G 5 [some (.ref (zk_ad E 7)), some (.ref (zk_ad E 1)), some .null, some .null, some (.int 0), none] [] ((J, N, Q, O, U), sz, 0, 0) := by
      (refine hG 900 _ _ _ _ ?_; simp only [r_X8_depthOf, zk_kl_none, zk_kl_int, zk_kl_ref, zk_kl_null, zk_kl_long, zk_kl_rf, zk_isr_ref, zk_isr_null, zk_isr_rf9, zk_c1_int, zk_c1_ref, zk_c1_null, zk_c1_rf, zk_psh_some, zk_psh_none, zk_nok_int, zk_nok_bool0, zk_nok_bool1, zk_nok_b, zk_fok_0, zk_fok_1, zk_fok_2, zk_fok_n, zk_fok_rf, zb_f, zb_p, zb_i, zb_a, zb_s, zk_nth_0, zk_nth_s, zk_fld_o, zk_put_o, zk_rv_eq, zk_ri_eq, zk_is_o, List.mem_cons, List.not_mem_nil, or_false, false_or, or_true, true_or, and_true, true_and, not_false_iff, not_true_eq_false, true_implies, false_implies, imp_self, implies_true, forall_const, zk_lit, zk_uj_ap, zk_un_ap, zk_un_un, zk_uj_uj, Nat.reduceEqDiff, eq_self, zk_bq, Bool.true_or, Bool.false_or, Nat.le_refl, Nat.zero_add, Nat.add_zero, Nat.reduceAdd, Nat.reduceLeDiff, Nat.le_zero_eq, and_self, and_false, false_and, ite_true, ite_false, Nat.zero_le, List.length_cons, List.length_nil, Option.some.injEq, forall_eq', reduceCtorEq, c1])
      exact h
    (refine hG 900 _ _ _ _ ?_; simp only [r_X8_depthOf, zk_kl_none, zk_kl_int, zk_kl_ref, zk_kl_null, zk_kl_long, zk_kl_rf, zk_isr_ref, zk_isr_null, zk_isr_rf9, zk_c1_int, zk_c1_ref, zk_c1_null, zk_c1_rf, zk_psh_some, zk_psh_none, zk_nok_int, zk_nok_bool0, zk_nok_bool1, zk_nok_b, zk_fok_0, zk_fok_1, zk_fok_2, zk_fok_n, zk_fok_rf, zb_f, zb_p, zb_i, zb_a, zb_s, zk_nth_0, zk_nth_s, zk_fld_o, zk_put_o, zk_rv_eq, zk_ri_eq, zk_is_o, List.mem_cons, List.not_mem_nil, or_false, false_or, or_true, true_or, and_true, true_and, not_false_iff, not_true_eq_false, true_implies, false_implies, imp_self, implies_true, forall_const, zk_lit, zk_uj_ap, zk_un_ap, zk_un_un, zk_uj_uj, Nat.reduceEqDiff, eq_self, zk_bq, Bool.true_or, Bool.false_or, Nat.le_refl, Nat.zero_add, Nat.add_zero, Nat.reduceAdd, Nat.reduceLeDiff, Nat.le_zero_eq, and_self, and_false, false_and, ite_true, ite_false, Nat.zero_le, List.length_cons, List.length_nil, Option.some.injEq, forall_eq', reduceCtorEq])
    exact g0
  | some b =>
    refine ⟨Nat.le_of_ble_eq_true rfl, fun G hG => ?_⟩
    change G 0 [some (.ref (zk_ad E 7)), some (.ref (zk_ad E 1)), some (.ref b), none, none, none] [] ((J, N, Q, O, U), sz, 0, 0)
    obtain ⟨hj, -, -⟩ := hxr.2.1.back hk hb
    have loop : ∀ f m x l5, m + f = 21 → (x = -1 ∧ 0 < m ∨ ∃ q, MR J1 N1 q ∧ x = nI q) → P (some (.int (g_dep J1 N1 f x m))) (J, N, Q, O, U) sz → ∀ v, v = va_rf (rq Q x) → G 5 [some (.ref (zk_ad E 7)), some (.ref (zk_ad E 1)), some (.ref b), some v, some (.int (nI m)), l5] [] ((J, N, Q, O, U), sz, 0, 0) := by
      intro f
      induction f with
      | zero =>
        intro m x l5 hm hx hP v hv
        have c1 : (20 : Int32) < nI m := (nI_lt (a := 20) (by omega) (by omega) : nI 20 < nI m)
        (refine hG 900 _ _ _ _ ?_; simp only [r_X8_depthOf, zk_kl_none, zk_kl_int, zk_kl_ref, zk_kl_null, zk_kl_long, zk_kl_rf, zk_isr_ref, zk_isr_null, zk_isr_rf9, zk_c1_int, zk_c1_ref, zk_c1_null, zk_c1_rf, zk_psh_some, zk_psh_none, zk_nok_int, zk_nok_bool0, zk_nok_bool1, zk_nok_b, zk_fok_0, zk_fok_1, zk_fok_2, zk_fok_n, zk_fok_rf, zb_f, zb_p, zb_i, zb_a, zb_s, zk_nth_0, zk_nth_s, zk_fld_o, zk_put_o, zk_rv_eq, zk_ri_eq, zk_is_o, List.mem_cons, List.not_mem_nil, or_false, false_or, or_true, true_or, and_true, true_and, not_false_iff, not_true_eq_false, true_implies, false_implies, imp_self, implies_true, forall_const, zk_lit, zk_uj_ap, zk_un_ap, zk_un_un, zk_uj_uj, Nat.reduceEqDiff, eq_self, zk_bq, Bool.true_or, Bool.false_or, Nat.le_refl, Nat.zero_add, Nat.add_zero, Nat.reduceAdd, Nat.reduceLeDiff, Nat.le_zero_eq, and_self, and_false, false_and, ite_true, ite_false, Nat.zero_le, List.length_cons, List.length_nil, Option.some.injEq, forall_eq', reduceCtorEq, c1])
        exact hP
      | succ f ih =>
        intro m x l5 hm hx hP v hv
        have c1 : ¬ (20 : Int32) < nI m := (nI_nlt (a := 20) (by omega) (by decide) : ¬ nI 20 < nI m)
        rw [g_dep_eq] at hP
        rcases hx with ⟨rfl, hm0⟩ | ⟨q, hq, rfl⟩
        · rw [if_pos rfl] at hP
          have hv2 : v = .null := by rw [hv]; unfold rq; rw [if_pos rfl]; rfl
          subst hv2
          have c2 : ¬ nI m = 0 := by rw [show (0 : Int32) = nI 0 from rfl, n_inj (by omega) (by decide)]; omega
          (refine hG 900 _ _ _ _ ?_; simp only [r_X8_depthOf, zk_kl_none, zk_kl_int, zk_kl_ref, zk_kl_null, zk_kl_long, zk_kl_rf, zk_isr_ref, zk_isr_null, zk_isr_rf9, zk_c1_int, zk_c1_ref, zk_c1_null, zk_c1_rf, zk_psh_some, zk_psh_none, zk_nok_int, zk_nok_bool0, zk_nok_bool1, zk_nok_b, zk_fok_0, zk_fok_1, zk_fok_2, zk_fok_n, zk_fok_rf, zb_f, zb_p, zb_i, zb_a, zb_s, zk_nth_0, zk_nth_s, zk_fld_o, zk_put_o, zk_rv_eq, zk_ri_eq, zk_is_o, List.mem_cons, List.not_mem_nil, or_false, false_or, or_true, true_or, and_true, true_and, not_false_iff, not_true_eq_false, true_implies, false_implies, imp_self, implies_true, forall_const, zk_lit, zk_uj_ap, zk_un_ap, zk_un_un, zk_uj_uj, Nat.reduceEqDiff, eq_self, zk_bq, Bool.true_or, Bool.false_or, Nat.le_refl, Nat.zero_add, Nat.add_zero, Nat.reduceAdd, Nat.reduceLeDiff, Nat.le_zero_eq, and_self, and_false, false_and, ite_true, ite_false, Nat.zero_le, List.length_cons, List.length_nil, Option.some.injEq, forall_eq', reduceCtorEq, c1, c2])
          exact hP
        · have hq20 := hq.lt hmi
          obtain ⟨a, ha, hao, hOa⟩ := hxr.2.1.room hmi hq
          have ha : Q 2 q = some a := ha
          have hOa : O a = some (xrm N1 q) := hOa
          have hv2 : v = .ref a := by rw [hv]; unfold rq; rw [if_neg (nI_ne1 (by omega)), n_cl (by omega), ha]; rfl
          subst hv2
          rw [if_neg (nI_ne1 (by omega)), n_cl (by omega)] at hP
          have ha1 := hao.1
          have g0 : ∀ F : Value → Prop, zk_fld (O a) [5] 0 F = F (.int (nI q)) := fun F => by rw [hOa]; simp [zk_fld_o, xrm, cR, zk_nth]
          have hin : vp_in (nI q) 20 := n_in hq20 (by decide)
          have hcl : (nI q).toNatClampNeg = q := n_cl (by omega)
          have h11 := hwl q hq20
          by_cases z : lea J1 N1 q = 100
          · rw [if_pos z] at hP
            have hb1 : N 11 q = -1 := by rw [show N 11 q = _ from h11, z]; decide
            have c3 : m_isIn (-1) 0 49 = false := by decide
            (refine hG 900 _ _ _ _ ?_; simp only [r_X8_depthOf, zk_kl_none, zk_kl_int, zk_kl_ref, zk_kl_null, zk_kl_long, zk_kl_rf, zk_isr_ref, zk_isr_null, zk_isr_rf9, zk_c1_int, zk_c1_ref, zk_c1_null, zk_c1_rf, zk_psh_some, zk_psh_none, zk_nok_int, zk_nok_bool0, zk_nok_bool1, zk_nok_b, zk_fok_0, zk_fok_1, zk_fok_2, zk_fok_n, zk_fok_rf, zb_f, zb_p, zb_i, zb_a, zb_s, zk_nth_0, zk_nth_s, zk_fld_o, zk_put_o, zk_rv_eq, zk_ri_eq, zk_is_o, List.mem_cons, List.not_mem_nil, or_false, false_or, or_true, true_or, and_true, true_and, not_false_iff, not_true_eq_false, true_implies, false_implies, imp_self, implies_true, forall_const, zk_lit, zk_uj_ap, zk_un_ap, zk_un_un, zk_uj_uj, Nat.reduceEqDiff, eq_self, zk_bq, Bool.true_or, Bool.false_or, Nat.le_refl, Nat.zero_add, Nat.add_zero, Nat.reduceAdd, Nat.reduceLeDiff, Nat.le_zero_eq, and_self, and_false, false_and, ite_true, ite_false, Nat.zero_le, List.length_cons, List.length_nil, Option.some.injEq, forall_eq', reduceCtorEq, c1, zk_vd ha1, g0, hin, hcl, hb1, spe_X5_exitAt, c3, Bool.false_eq_true])
            exact hP
          · rw [if_neg z] at hP
            have hl := lea_act z
            have he := (m_act_mem.mp hl.1).1
            obtain ⟨c, hc, hco, hcX, ⟨ci, hci, hic⟩, hoth⟩ := hxr.oth hmi hl.1 hq hl.2.1 ha
            have hc : xat Q (lea J1 N1 q / 2) = some c := hc
            have hcX : isX (O c) := hcX
            have hic : ∀ k, zk_is (O c) k = (k ci = true) := hic
            have hoth : x_oth (O c) a = rq Q (m_into N1 (lea J1 N1 q)) := hoth
            have hc1 := hco.1
            have kk : (Nat.beq ci 1 || Nat.beq ci 6) = true := by rcases hci with rfl | rfl <;> rfl
            have hb1 : N 11 q = nI (lea J1 N1 q / 2) := by rw [show N 11 q = _ from h11]; unfold bex; rw [if_neg z]
            have c3 := n_isIn49 (i := lea J1 N1 q / 2) (by omega)
            have hcl2 : (nI (lea J1 N1 q / 2)).toNatClampNeg = lea J1 N1 q / 2 := n_cl (by omega)
            have ih2 := fun l5 => ih (m + 1) (m_into N1 (lea J1 N1 q)) l5 (by omega) (by
              obtain ⟨r, -, -, w | ⟨q2, w1, w2, w3⟩⟩ := m_ends hmi hl.1
              · exact Or.inl ⟨w, by omega⟩
              · exact Or.inr ⟨q2, w1, w3⟩) hP _ rfl
            (refine hG 900 _ _ _ _ ?_; simp only [r_X8_depthOf, zk_kl_none, zk_kl_int, zk_kl_ref, zk_kl_null, zk_kl_long, zk_kl_rf, zk_isr_ref, zk_isr_null, zk_isr_rf9, zk_c1_int, zk_c1_ref, zk_c1_null, zk_c1_rf, zk_psh_some, zk_psh_none, zk_nok_int, zk_nok_bool0, zk_nok_bool1, zk_nok_b, zk_fok_0, zk_fok_1, zk_fok_2, zk_fok_n, zk_fok_rf, zb_f, zb_p, zb_i, zb_a, zb_s, zk_nth_0, zk_nth_s, zk_fld_o, zk_put_o, zk_rv_eq, zk_ri_eq, zk_is_o, List.mem_cons, List.not_mem_nil, or_false, false_or, or_true, true_or, and_true, true_and, not_false_iff, not_true_eq_false, true_implies, false_implies, imp_self, implies_true, forall_const, zk_lit, zk_uj_ap, zk_un_ap, zk_un_un, zk_uj_uj, Nat.reduceEqDiff, eq_self, zk_bq, Bool.true_or, Bool.false_or, Nat.le_refl, Nat.zero_add, Nat.add_zero, Nat.reduceAdd, Nat.reduceLeDiff, Nat.le_zero_eq, and_self, and_false, false_and, ite_true, ite_false, Nat.zero_le, List.length_cons, List.length_nil, Option.some.injEq, forall_eq', reduceCtorEq, c1, zk_vd ha1, g0, hin, hcl, hb1, spe_X5_exitAt, c3, hcl2, hc, va_rf_s, Bool.true_eq_false, zk_vd hc1, hic, kk, spe_X2_otherThan, hc1, hcX, hoth, n_succ])
            exact ih2 _
    have l0 := loop 21 0 (nI k) none (by omega) (Or.inr ⟨k, hj, rfl⟩) h (.ref b) (by unfold rq; rw [if_neg (nI_ne1 (by omega)), n_cl (by omega), hb]; rfl)
    (refine hG 900 _ _ _ _ ?_; simp only [r_X8_depthOf, zk_kl_none, zk_kl_int, zk_kl_ref, zk_kl_null, zk_kl_long, zk_kl_rf, zk_isr_ref, zk_isr_null, zk_isr_rf9, zk_c1_int, zk_c1_ref, zk_c1_null, zk_c1_rf, zk_psh_some, zk_psh_none, zk_nok_int, zk_nok_bool0, zk_nok_bool1, zk_nok_b, zk_fok_0, zk_fok_1, zk_fok_2, zk_fok_n, zk_fok_rf, zb_f, zb_p, zb_i, zb_a, zb_s, zk_nth_0, zk_nth_s, zk_fld_o, zk_put_o, zk_rv_eq, zk_ri_eq, zk_is_o, List.mem_cons, List.not_mem_nil, or_false, false_or, or_true, true_or, and_true, true_and, not_false_iff, not_true_eq_false, true_implies, false_implies, imp_self, implies_true, forall_const, zk_lit, zk_uj_ap, zk_un_ap, zk_un_un, zk_uj_uj, Nat.reduceEqDiff, eq_self, zk_bq, Bool.true_or, Bool.false_or, Nat.le_refl, Nat.zero_add, Nat.add_zero, Nat.reduceAdd, Nat.reduceLeDiff, Nat.le_zero_eq, and_self, and_false, false_and, ite_true, ite_false, Nat.zero_le, List.length_cons, List.length_nil, Option.some.injEq, forall_eq', reduceCtorEq])
    exact l0
theorem ct_X8_depthOf {l : Launch} (hl : l.stackTraces = false) (E : zk_E) : zk_C l E (zk_VT E) yX8_depthOf cX8_depthOf 6 (some (.int)) rm_X8_depthOf (sp_X8_depthOf E) := by
  refine zk_meth (M := M_X8_depthOf) (C := C_X8_depthOf E) hl (by decide +kernel) rfl (fun _ _ => rfl) (zk_VT_ok E) MO_X8_depthOf TO_X8_depthOf THo_X8_depthOf ?_ (vc_X8_depthOf E)
  exact fun p e s m args below meth c X pc n mc ms sp2 h => by
    have h2 := zk_lka_mem h
    simp only [List.mem_cons, List.not_mem_nil, or_false, Prod.mk.injEq] at h2
    rcases h2 with ⟨rfl, rfl, rfl, rfl, rfl⟩ | ⟨rfl, rfl, rfl, rfl, rfl⟩
    · exact zk_coV (idx := 33) X (ct_X5_exitAt hl E) (List.forall_mem_cons.mpr ⟨zk_wi 118 (by decide +kernel) rfl, List.forall_mem_cons.mpr ⟨zk_wi 119 (by decide +kernel) rfl, List.forall_mem_cons.mpr ⟨zk_wi 120 (by decide +kernel) rfl, List.forall_mem_cons.mpr ⟨zk_wi 3 (by decide +kernel) rfl, List.forall_mem_cons.mpr ⟨zk_wi 121 (by decide +kernel) rfl, fun _ h => absurd h List.not_mem_nil⟩⟩⟩⟩⟩) (fun ci h => by
      have h := Nat.eq_of_beq_eq_true h
      subst h
      exact ⟨_, _, rfl⟩) (by decide +kernel) ⟨by decide, by decide, by decide +kernel⟩ ⟨by decide, by decide⟩
    · exact zk_coU (idx := 120) (x := ⟨"ClerestoryPlan$Exit", "otherThan", "(LClerestoryPlan$Room;)LClerestoryPlan$Room;"⟩) X (ct_X2_otherThan hl E) (List.forall_mem_cons.mpr ⟨zk_wi 169 (by decide +kernel) rfl, List.forall_mem_cons.mpr ⟨zk_wi 171 (by decide +kernel) rfl, List.forall_mem_cons.mpr ⟨zk_wi 170 (by decide +kernel) rfl, List.forall_mem_cons.mpr ⟨zk_wi 16 (by decide +kernel) rfl, List.forall_mem_cons.mpr ⟨zk_wi 174 (by decide +kernel) rfl, fun _ h => absurd h List.not_mem_nil⟩⟩⟩⟩⟩) (fun ci h => by
      rw [Bool.or_eq_true] at h
      rcases h with h | h
      · have h := Nat.eq_of_beq_eq_true h
        subst h
        exact ⟨_, _, _, rfl, zk_wi 172 (by decide +kernel) rfl⟩
      · have h := Nat.eq_of_beq_eq_true h
        subst h
        exact ⟨_, _, _, rfl, zk_wi 173 (by decide +kernel) rfl⟩) rfl (by decide +kernel) ⟨by decide, by decide, by decide +kernel⟩ ⟨by decide, by decide⟩
def sp_X8_reckonDepths (E : zk_E) : zk_Sp zk_S := fun av σ sz P PX => match av with
  | [.ref a, .ref p] => a = zk_ad E 7 ∧ p = zk_ad E 1 ∧ ∃ J N fl, MI J N ∧ XR E sz σ J N fl ∧ WLv J N σ.2.1 ∧ ∀ D, (∀ k, k < 20 → D k = g_deep J N k) → P none (σ.1, zk_un σ.2.1 14 D, σ.2.2) sz
  | _ => False
theorem spe_X8_reckonDepths (E : zk_E) (a : Nat) (p : Nat) (σ : zk_S) (sz : Nat) (P : zk_P zk_S) (PX : zk_X zk_S) : sp_X8_reckonDepths E [.ref a, .ref p] σ sz P PX = (a = zk_ad E 7 ∧ p = zk_ad E 1 ∧ ∃ J N fl, MI J N ∧ XR E sz σ J N fl ∧ WLv J N σ.2.1 ∧ ∀ D, (∀ k, k < 20 → D k = g_deep J N k) → P none (σ.1, zk_un σ.2.1 14 D, σ.2.2) sz) := propext Iff.rfl
def C_X8_reckonDepths (E : zk_E) : zk_Cl zk_S := zk_lka [(21, 3, 0, 0, zk_rv (zk_VT E) (fun ci => Nat.beq ci 7) (sp_X8_depthOf E))]
theorem r_X8_reckonDepths (E : zk_E) (P : zk_P zk_S) (PX : zk_X zk_S) (K : Nat → zk_L → List Value → zk_W zk_S → Prop) : (∀ (n : Nat) (l0 l1 l2 : Option Value)  (r : List Value) (σ : zk_S) (sz k c : Nat), zk_run E (zk_VT E) M_X8_reckonDepths (C_X8_reckonDepths E) P PX K (n + 1) 0 [l0, l1, l2] r (σ, sz, k, c) = zk_run E (zk_VT E) M_X8_reckonDepths (C_X8_reckonDepths E) P PX K n 1 [l0, l1, l2] (.int (0) :: r) (σ, sz, k, c)) ∧
  (∀ (n : Nat) (l0 l1 l2 : Option Value) (x : Int32) (r : List Value) (σ : zk_S) (sz k c : Nat), zk_run E (zk_VT E) M_X8_reckonDepths (C_X8_reckonDepths E) P PX K (n + 1) 1 [l0, l1, l2] (.int x :: r) (σ, sz, k, c) = zk_run E (zk_VT E) M_X8_reckonDepths (C_X8_reckonDepths E) P PX K n 2 [l0, zk_kl l1, some (.int x)] r (σ, sz, k, c)) ∧
  (∀ (n : Nat) (l0 l1 l2 : Option Value)  (r : List Value) (σ : zk_S) (sz k c : Nat), zk_run E (zk_VT E) M_X8_reckonDepths (C_X8_reckonDepths E) P PX K (n + 1) 2 [l0, l1, l2] r (σ, sz, k, c) = K 2 [l0, l1, l2] r (σ, sz, k, c)) ∧
  (∀ (n : Nat) (l0 l1 l2 : Option Value)  (r : List Value) (σ : zk_S) (sz k c : Nat), zk_run E (zk_VT E) M_X8_reckonDepths (C_X8_reckonDepths E) P PX K (n + 1) 3 [l0, l1, l2] r (σ, sz, k, c) = zk_run E (zk_VT E) M_X8_reckonDepths (C_X8_reckonDepths E) P PX K n 5 [l0, l1, l2] (.int (20) :: r) (σ, sz, k, c)) ∧
  (∀ (n : Nat) (l0 l1 l2 : Option Value) (x y : Int32) (r : List Value) (σ : zk_S) (sz k c : Nat), zk_run E (zk_VT E) M_X8_reckonDepths (C_X8_reckonDepths E) P PX K (n + 1) 5 [l0, l1, l2] (.int y :: .int x :: r) (σ, sz, k, c) = ((y ≤ x → zk_run E (zk_VT E) M_X8_reckonDepths (C_X8_reckonDepths E) P PX K n 31 [l0, l1, l2] r (σ, sz, k, c)) ∧ (¬ (y ≤ x) → zk_run E (zk_VT E) M_X8_reckonDepths (C_X8_reckonDepths E) P PX K n 8 [l0, l1, l2] r (σ, sz, k, c)))) ∧
  (∀ (n : Nat) (l1 l2 : Option Value) (y0 : Value) (r : List Value) (σ : zk_S) (sz k c : Nat), zk_run E (zk_VT E) M_X8_reckonDepths (C_X8_reckonDepths E) P PX K (n + 1) 8 [some y0, l1, l2] r (σ, sz, k, c) = (zk_isr y0 ∧ zk_run E (zk_VT E) M_X8_reckonDepths (C_X8_reckonDepths E) P PX K n 9 [some y0, l1, l2] (y0 :: r) (σ, sz, k, c))) ∧
  (∀ (n : Nat) (l0 l1 l2 : Option Value) (a : Nat) (r : List Value) (σ : zk_S) (sz k c : Nat), zk_run E (zk_VT E) M_X8_reckonDepths (C_X8_reckonDepths E) P PX K (n + 1) 9 [l0, l1, l2] (.ref a :: r) (σ, sz, k, c) = zk_fld (zk_view E σ a) [7] 6 (fun v => zk_run E (zk_VT E) M_X8_reckonDepths (C_X8_reckonDepths E) P PX K n 12 [l0, l1, l2] (v :: r) (σ, sz, k, c))) ∧
  (∀ (n : Nat) (l0 l1 : Option Value) (y2 : Int32) (r : List Value) (σ : zk_S) (sz k c : Nat), zk_run E (zk_VT E) M_X8_reckonDepths (C_X8_reckonDepths E) P PX K (n + 1) 12 [l0, l1, some (.int y2)] r (σ, sz, k, c) = zk_run E (zk_VT E) M_X8_reckonDepths (C_X8_reckonDepths E) P PX K n 13 [l0, l1, some (.int y2)] (.int y2 :: r) (σ, sz, k, c)) ∧
  (∀ (n : Nat) (l1 l2 : Option Value) (y0 : Value) (r : List Value) (σ : zk_S) (sz k c : Nat), zk_run E (zk_VT E) M_X8_reckonDepths (C_X8_reckonDepths E) P PX K (n + 1) 13 [some y0, l1, l2] r (σ, sz, k, c) = (zk_isr y0 ∧ zk_run E (zk_VT E) M_X8_reckonDepths (C_X8_reckonDepths E) P PX K n 14 [some y0, l1, l2] (y0 :: r) (σ, sz, k, c))) ∧
  (∀ (n : Nat) (l0 l2 : Option Value) (y1 : Value) (r : List Value) (σ : zk_S) (sz k c : Nat), zk_run E (zk_VT E) M_X8_reckonDepths (C_X8_reckonDepths E) P PX K (n + 1) 14 [l0, some y1, l2] r (σ, sz, k, c) = (zk_isr y1 ∧ zk_run E (zk_VT E) M_X8_reckonDepths (C_X8_reckonDepths E) P PX K n 15 [l0, some y1, l2] (y1 :: r) (σ, sz, k, c))) ∧
  (∀ (n : Nat) (l0 l2 : Option Value) (y1 : Value) (r : List Value) (σ : zk_S) (sz k c : Nat), zk_run E (zk_VT E) M_X8_reckonDepths (C_X8_reckonDepths E) P PX K (n + 1) 15 [l0, some y1, l2] r (σ, sz, k, c) = (zk_isr y1 ∧ zk_run E (zk_VT E) M_X8_reckonDepths (C_X8_reckonDepths E) P PX K n 16 [l0, some y1, l2] (y1 :: r) (σ, sz, k, c))) ∧
  (∀ (n : Nat) (l0 l1 l2 : Option Value) (a : Nat) (r : List Value) (σ : zk_S) (sz k c : Nat), zk_run E (zk_VT E) M_X8_reckonDepths (C_X8_reckonDepths E) P PX K (n + 1) 16 [l0, l1, l2] (.ref a :: r) (σ, sz, k, c) = zk_fld (zk_view E σ a) [4] 0 (fun v => zk_run E (zk_VT E) M_X8_reckonDepths (C_X8_reckonDepths E) P PX K n 19 [l0, l1, l2] (v :: r) (σ, sz, k, c))) ∧
  (∀ (n : Nat) (l0 l1 : Option Value) (y2 : Int32) (r : List Value) (σ : zk_S) (sz k c : Nat), zk_run E (zk_VT E) M_X8_reckonDepths (C_X8_reckonDepths E) P PX K (n + 1) 19 [l0, l1, some (.int y2)] r (σ, sz, k, c) = zk_run E (zk_VT E) M_X8_reckonDepths (C_X8_reckonDepths E) P PX K n 20 [l0, l1, some (.int y2)] (.int y2 :: r) (σ, sz, k, c)) ∧
  (∀ (n : Nat) (l0 l1 l2 : Option Value) (a : Nat) (i : Int32) (r : List Value) (σ : zk_S) (sz k c : Nat), zk_run E (zk_VT E) M_X8_reckonDepths (C_X8_reckonDepths E) P PX K (n + 1) 20 [l0, l1, l2] (.int i :: .ref a :: r) (σ, sz, k, c) = zk_qld (zk_view E σ a) i [zk_ar E 3, zk_ar E 4, zk_ar E 5, zk_ar E 6, zk_ar E 7] (fun x => (x = none → zk_run E (zk_VT E) M_X8_reckonDepths (C_X8_reckonDepths E) P PX K n 21 [l0, l1, l2] (.null :: r) (σ, sz, k, c)) ∧ ∀ b, x = some b → zk_run E (zk_VT E) M_X8_reckonDepths (C_X8_reckonDepths E) P PX K n 21 [l0, l1, l2] (.ref b :: r) (σ, sz, k, c))) ∧
  (∀ (n : Nat) (l0 l1 l2 : Option Value) (v0 : Value) (v1 : Value) (v2 : Value) (v3 : Value) (v4 : Value)  (σ : zk_S) (sz k c : Nat), zk_run E (zk_VT E) M_X8_reckonDepths (C_X8_reckonDepths E) P PX K (n + 1) 21 [l0, l1, l2] [v0, v1, v2, v3, v4] (σ, sz, k, c) = (k + 0 ≤ 0 ∧ c + 0 ≤ 0 ∧ (zk_rv (zk_VT E) (fun ci => Nat.beq ci 7) (sp_X8_depthOf E)) [v2, v1, v0] σ sz (fun v s2 z2 => zk_run E (zk_VT E) M_X8_reckonDepths (C_X8_reckonDepths E) P PX K n 24 [l0, l1, l2] (zk_psh v [v3, v4]) (s2, z2, k + 0, c + 0)) (fun X s2 z2 => PX X s2 z2))) ∧
  (∀ (n : Nat) (l0 l1 l2 : Option Value) (a : Nat) (i x : Int32) (r : List Value) (σ : zk_S) (sz k c : Nat), zk_run E (zk_VT E) M_X8_reckonDepths (C_X8_reckonDepths E) P PX K (n + 1) 24 [l0, l1, l2] (.int x :: .int i :: .ref a :: r) (σ, sz, k, c) = zk_ist (zk_view E σ a) (zk_ar E 0) i x (fun e => zk_wrok E σ a e ∧ zk_run E (zk_VT E) M_X8_reckonDepths (C_X8_reckonDepths E) P PX K n 25 [l0, l1, l2] r (zk_wr E σ a e, sz, k, c))) ∧
  (∀ (n : Nat) (l0 l1 : Option Value) (y2 : Int32) (r : List Value) (σ : zk_S) (sz k c : Nat), zk_run E (zk_VT E) M_X8_reckonDepths (C_X8_reckonDepths E) P PX K (n + 1) 25 [l0, l1, some (.int y2)] r (σ, sz, k, c) = zk_run E (zk_VT E) M_X8_reckonDepths (C_X8_reckonDepths E) P PX K n 28 [l0, zk_kl l1, some (.int (y2 + 1))] r (σ, sz, k, c)) ∧
  (∀ (n : Nat) (l0 l1 l2 : Option Value)  (r : List Value) (σ : zk_S) (sz k c : Nat), zk_run E (zk_VT E) M_X8_reckonDepths (C_X8_reckonDepths E) P PX K (n + 1) 28 [l0, l1, l2] r (σ, sz, k, c) = zk_run E (zk_VT E) M_X8_reckonDepths (C_X8_reckonDepths E) P PX K n 2 [l0, l1, l2] r (σ, sz, k, c)) ∧
  (∀ (n : Nat) (l0 l1 l2 : Option Value)   (σ : zk_S) (sz k c : Nat), zk_run E (zk_VT E) M_X8_reckonDepths (C_X8_reckonDepths E) P PX K (n + 1) 31 [l0, l1, l2] [] (σ, sz, k, c) = (P none σ sz ∧ k ≤ 0 ∧ c ≤ 0)) ∧
  (∀ (n : Nat) (l0 l1 l2 : Option Value) (r : List Value) (w : zk_W zk_S), zk_go E (zk_VT E) M_X8_reckonDepths (C_X8_reckonDepths E) P PX K n 0 [l0, l1, l2] r w = zk_run E (zk_VT E) M_X8_reckonDepths (C_X8_reckonDepths E) P PX K (n + 1) 0 [l0, l1, l2] r w) ∧
  (∀ (n : Nat) (l0 l1 : Option Value) (y2 : Int32) (r : List Value) (σ : zk_S) (sz k c : Nat), zk_go E (zk_VT E) M_X8_reckonDepths (C_X8_reckonDepths E) P PX K n 2 [l0, l1, some (.int y2)] r (σ, sz, k, c) = zk_run E (zk_VT E) M_X8_reckonDepths (C_X8_reckonDepths E) P PX K n 3 [l0, l1, some (.int y2)] (.int y2 :: r) (σ, sz, k, c)) := ⟨by intros; rfl, by intros; rfl, by intros; rfl, by intros; rfl, by intros; rfl, by intros; rfl, by intros; rfl, by intros; rfl, by intros; rfl, by intros; rfl, by intros; rfl, by intros; rfl, by intros; rfl, by intros; rfl, by intros; rfl, by intros; rfl, by intros; rfl, by intros; rfl, by intros; rfl, by intros; rfl, by intros; rfl⟩
theorem vc_X8_reckonDepths (E : zk_E) : zk_VC E (zk_VT E) M_X8_reckonDepths (C_X8_reckonDepths E) 3 (sp_X8_reckonDepths E) := by
  intro av σ sz P PX h
  obtain ⟨J, N, Q, O, U⟩ := σ
  unfold sp_X8_reckonDepths at h
  split at h
  case h_2 => exact h.elim
  rename_i a0 p
  obtain ⟨rfl, h⟩ := h
  refine ⟨Nat.le_of_ble_eq_true rfl, fun G hG => ?_⟩
  change G 0 [some (.ref (zk_ad E 7)), some (.ref p), none] [] ((J, N, Q, O, U), sz, 0, 0)
  try dsimp only at h
  obtain ⟨rfl, J1, N1, fl, hmi, hxr, hwl, h⟩ := h
  have hx : ∀ D, XR E sz (J, zk_un N 14 D, Q, O, U) J1 N1 fl := fun _ => hxr.cn rfl rfl
  have hw : ∀ D, WLv J1 N1 (zk_un N 14 D) := fun _ => hwl
  have loop : ∀ m k D, k + m = 20 → (∀ q, q < k → D q = g_deep J1 N1 q) → G 2 [some (.ref (zk_ad E 7)), some (.ref (zk_ad E 1)), some (.int (nI k))] [] ((J, zk_un N 14 D, Q, O, U), sz, 0, 0) := by
    intro m
    induction m with
    | zero =>
      intro k D hk hD
      have c1 : (20 : Int32) ≤ nI k := (nI_le (a := 20) (by omega) (by omega) : nI 20 ≤ nI k)
      (refine hG 900 _ _ _ _ ?_; simp only [r_X8_reckonDepths, zk_kl_none, zk_kl_int, zk_kl_ref, zk_kl_null, zk_kl_long, zk_kl_rf, zk_isr_ref, zk_isr_null, zk_isr_rf9, zk_c1_int, zk_c1_ref, zk_c1_null, zk_c1_rf, zk_psh_some, zk_psh_none, zk_nok_int, zk_nok_bool0, zk_nok_bool1, zk_nok_b, zk_fok_0, zk_fok_1, zk_fok_2, zk_fok_n, zk_fok_rf, zb_f, zb_p, zb_i, zb_a, zb_s, zk_nth_0, zk_nth_s, zk_fld_o, zk_put_o, zk_rv_eq, zk_ri_eq, zk_is_o, List.mem_cons, List.not_mem_nil, or_false, false_or, or_true, true_or, and_true, true_and, not_false_iff, not_true_eq_false, true_implies, false_implies, imp_self, implies_true, forall_const, zk_lit, zk_uj_ap, zk_un_ap, zk_un_un, zk_uj_uj, Nat.reduceEqDiff, eq_self, zk_bq, Bool.true_or, Bool.false_or, Nat.le_refl, Nat.zero_add, Nat.add_zero, Nat.reduceAdd, Nat.reduceLeDiff, Nat.le_zero_eq, and_self, and_false, false_and, ite_true, ite_false, Nat.zero_le, List.length_cons, List.length_nil, Option.some.injEq, forall_eq', reduceCtorEq, c1])
      exact h D (fun q hq => hD q (by omega))
    | succ m ih =>
      intro k D hk hD
      have c1 : ¬ (20 : Int32) ≤ nI k := (nI_ge (b := 20) (by omega) (by decide) : ¬ nI 20 ≤ nI k)
      have hin : vp_in (nI k) 20 := n_in (by omega) (by decide)
      have hcl : (nI k).toNatClampNeg = k := n_cl (by omega)
      have ih2 := ih (k + 1) (upd D k (g_deep J1 N1 k)) (by omega) (fun q hq => by
        by_cases z : q = k
        · rw [z, upd_self]
        · rw [upd_ne _ _ z]; exact hD q (by omega))
      cases hb : Q 2 k with
      | none =>
        (refine hG 900 _ _ _ _ ?_; simp only [r_X8_reckonDepths, zk_kl_none, zk_kl_int, zk_kl_ref, zk_kl_null, zk_kl_long, zk_kl_rf, zk_isr_ref, zk_isr_null, zk_isr_rf9, zk_c1_int, zk_c1_ref, zk_c1_null, zk_c1_rf, zk_psh_some, zk_psh_none, zk_nok_int, zk_nok_bool0, zk_nok_bool1, zk_nok_b, zk_fok_0, zk_fok_1, zk_fok_2, zk_fok_n, zk_fok_rf, zb_f, zb_p, zb_i, zb_a, zb_s, zk_nth_0, zk_nth_s, zk_fld_o, zk_put_o, zk_rv_eq, zk_ri_eq, zk_is_o, List.mem_cons, List.not_mem_nil, or_false, false_or, or_true, true_or, and_true, true_and, not_false_iff, not_true_eq_false, true_implies, false_implies, imp_self, implies_true, forall_const, zk_lit, zk_uj_ap, zk_un_ap, zk_un_un, zk_uj_uj, Nat.reduceEqDiff, eq_self, zk_bq, Bool.true_or, Bool.false_or, Nat.le_refl, Nat.zero_add, Nat.add_zero, Nat.reduceAdd, Nat.reduceLeDiff, Nat.le_zero_eq, and_self, and_false, false_and, ite_true, ite_false, Nat.zero_le, List.length_cons, List.length_nil, Option.some.injEq, forall_eq', reduceCtorEq, c1, hin, hcl, hb, spe_X8_depthOf])
        refine ⟨J1, N1, fl, k, hmi, hx D, hw D, by omega, by rw [hb]; rfl, ?_⟩
        simp only [r_X8_reckonDepths, zk_kl_none, zk_kl_int, zk_kl_ref, zk_kl_null, zk_kl_long, zk_kl_rf, zk_isr_ref, zk_isr_null, zk_isr_rf9, zk_c1_int, zk_c1_ref, zk_c1_null, zk_c1_rf, zk_psh_some, zk_psh_none, zk_nok_int, zk_nok_bool0, zk_nok_bool1, zk_nok_b, zk_fok_0, zk_fok_1, zk_fok_2, zk_fok_n, zk_fok_rf, zb_f, zb_p, zb_i, zb_a, zb_s, zk_nth_0, zk_nth_s, zk_fld_o, zk_put_o, zk_rv_eq, zk_ri_eq, zk_is_o, List.mem_cons, List.not_mem_nil, or_false, false_or, or_true, true_or, and_true, true_and, not_false_iff, not_true_eq_false, true_implies, false_implies, imp_self, implies_true, forall_const, zk_lit, zk_uj_ap, zk_un_ap, zk_un_un, zk_uj_uj, Nat.reduceEqDiff, eq_self, zk_bq, Bool.true_or, Bool.false_or, Nat.le_refl, Nat.zero_add, Nat.add_zero, Nat.reduceAdd, Nat.reduceLeDiff, Nat.le_zero_eq, and_self, and_false, false_and, ite_true, ite_false, Nat.zero_le, List.length_cons, List.length_nil, Option.some.injEq, forall_eq', reduceCtorEq, hin, hcl, zk_un_un, n_succ]
        exact ih2
      | some b =>
        (refine hG 900 _ _ _ _ ?_; simp only [r_X8_reckonDepths, zk_kl_none, zk_kl_int, zk_kl_ref, zk_kl_null, zk_kl_long, zk_kl_rf, zk_isr_ref, zk_isr_null, zk_isr_rf9, zk_c1_int, zk_c1_ref, zk_c1_null, zk_c1_rf, zk_psh_some, zk_psh_none, zk_nok_int, zk_nok_bool0, zk_nok_bool1, zk_nok_b, zk_fok_0, zk_fok_1, zk_fok_2, zk_fok_n, zk_fok_rf, zb_f, zb_p, zb_i, zb_a, zb_s, zk_nth_0, zk_nth_s, zk_fld_o, zk_put_o, zk_rv_eq, zk_ri_eq, zk_is_o, List.mem_cons, List.not_mem_nil, or_false, false_or, or_true, true_or, and_true, true_and, not_false_iff, not_true_eq_false, true_implies, false_implies, imp_self, implies_true, forall_const, zk_lit, zk_uj_ap, zk_un_ap, zk_un_un, zk_uj_uj, Nat.reduceEqDiff, eq_self, zk_bq, Bool.true_or, Bool.false_or, Nat.le_refl, Nat.zero_add, Nat.add_zero, Nat.reduceAdd, Nat.reduceLeDiff, Nat.le_zero_eq, and_self, and_false, false_and, ite_true, ite_false, Nat.zero_le, List.length_cons, List.length_nil, Option.some.injEq, forall_eq', reduceCtorEq, c1, hin, hcl, hb, spe_X8_depthOf])
        refine ⟨J1, N1, fl, k, hmi, hx D, hw D, by omega, by rw [hb]; rfl, ?_⟩
        simp only [r_X8_reckonDepths, zk_kl_none, zk_kl_int, zk_kl_ref, zk_kl_null, zk_kl_long, zk_kl_rf, zk_isr_ref, zk_isr_null, zk_isr_rf9, zk_c1_int, zk_c1_ref, zk_c1_null, zk_c1_rf, zk_psh_some, zk_psh_none, zk_nok_int, zk_nok_bool0, zk_nok_bool1, zk_nok_b, zk_fok_0, zk_fok_1, zk_fok_2, zk_fok_n, zk_fok_rf, zb_f, zb_p, zb_i, zb_a, zb_s, zk_nth_0, zk_nth_s, zk_fld_o, zk_put_o, zk_rv_eq, zk_ri_eq, zk_is_o, List.mem_cons, List.not_mem_nil, or_false, false_or, or_true, true_or, and_true, true_and, not_false_iff, not_true_eq_false, true_implies, false_implies, imp_self, implies_true, forall_const, zk_lit, zk_uj_ap, zk_un_ap, zk_un_un, zk_uj_uj, Nat.reduceEqDiff, eq_self, zk_bq, Bool.true_or, Bool.false_or, Nat.le_refl, Nat.zero_add, Nat.add_zero, Nat.reduceAdd, Nat.reduceLeDiff, Nat.le_zero_eq, and_self, and_false, false_and, ite_true, ite_false, Nat.zero_le, List.length_cons, List.length_nil, Option.some.injEq, forall_eq', reduceCtorEq, hin, hcl, zk_un_un, n_succ]
        exact ih2
  have l0 := loop 20 0 (N 14) (by omega) (fun q hq => absurd hq (Nat.not_lt_zero q))
  rw [zk_un_self N 14] at l0
  (refine hG 900 _ _ _ _ ?_; simp only [r_X8_reckonDepths, zk_kl_none, zk_kl_int, zk_kl_ref, zk_kl_null, zk_kl_long, zk_kl_rf, zk_isr_ref, zk_isr_null, zk_isr_rf9, zk_c1_int, zk_c1_ref, zk_c1_null, zk_c1_rf, zk_psh_some, zk_psh_none, zk_nok_int, zk_nok_bool0, zk_nok_bool1, zk_nok_b, zk_fok_0, zk_fok_1, zk_fok_2, zk_fok_n, zk_fok_rf, zb_f, zb_p, zb_i, zb_a, zb_s, zk_nth_0, zk_nth_s, zk_fld_o, zk_put_o, zk_rv_eq, zk_ri_eq, zk_is_o, List.mem_cons, List.not_mem_nil, or_false, false_or, or_true, true_or, and_true, true_and, not_false_iff, not_true_eq_false, true_implies, false_implies, imp_self, implies_true, forall_const, zk_lit, zk_uj_ap, zk_un_ap, zk_un_un, zk_uj_uj, Nat.reduceEqDiff, eq_self, zk_bq, Bool.true_or, Bool.false_or, Nat.le_refl, Nat.zero_add, Nat.add_zero, Nat.reduceAdd, Nat.reduceLeDiff, Nat.le_zero_eq, and_self, and_false, false_and, ite_true, ite_false, Nat.zero_le, List.length_cons, List.length_nil, Option.some.injEq, forall_eq', reduceCtorEq])
  exact l0
theorem ct_X8_reckonDepths {l : Launch} (hl : l.stackTraces = false) (E : zk_E) : zk_C l E (zk_VT E) yX8_reckonDepths cX8_reckonDepths 3 (none) rm_X8_reckonDepths (sp_X8_reckonDepths E) := by
  refine zk_meth (M := M_X8_reckonDepths) (C := C_X8_reckonDepths E) hl (by decide +kernel) rfl (fun _ _ => rfl) (zk_VT_ok E) MO_X8_reckonDepths TO_X8_reckonDepths THo_X8_reckonDepths ?_ (vc_X8_reckonDepths E)
  exact fun p e s m args below meth c X pc n mc ms sp2 h => by
    have h2 := zk_lka_mem h
    simp only [List.mem_cons, List.not_mem_nil, or_false, Prod.mk.injEq] at h2
    rcases h2 with ⟨rfl, rfl, rfl, rfl, rfl⟩
    exact zk_coV (idx := 113) X (ct_X8_depthOf hl E) (List.forall_mem_cons.mpr ⟨zk_wi 165 (by decide +kernel) rfl, List.forall_mem_cons.mpr ⟨zk_wi 166 (by decide +kernel) rfl, List.forall_mem_cons.mpr ⟨zk_wi 167 (by decide +kernel) rfl, List.forall_mem_cons.mpr ⟨zk_wi 4 (by decide +kernel) rfl, List.forall_mem_cons.mpr ⟨zk_wi 168 (by decide +kernel) rfl, fun _ h => absurd h List.not_mem_nil⟩⟩⟩⟩⟩) (fun ci h => by
      have h := Nat.eq_of_beq_eq_true h
      subst h
      exact ⟨_, _, rfl⟩) (by decide +kernel) ⟨by decide, by decide, by decide +kernel⟩ ⟨by decide, by decide⟩


