/-! the class: what changes a plan -/
/-- an array of ints -/
def isA (o : Option va_E) : Prop := ∃ c n g, o = some (.inl (c, n, .inl g))
theorem isA_up {O : zk_Hp} {b : Nat} {x : Nat × List Value} (e : va_E) (h : O b = some (.inr x)) : ∀ q, isA (O q) → zk_up O b e q = O q := fun q ⟨c, n, g, hq⟩ => zk_up_ne _ _ (fun w => by rw [w, h] at hq; cases hq)
/-- a change: the House's rows and arrays stay as they were, the plan is another, nothing is reckoned -/
def ZM (E : zk_E) (σ : zk_S) (sz : Nat) (J N : Nat → Nat → Int32) (v : Option Value) (P : zk_P zk_S) : Prop := ∀ J2 N2 Q2 O2 z2, sz ≤ z2 → J2 0 4 = 0 → (∀ o, 22 ≤ o → J2 o = σ.1 o) → (∀ o, 22 ≤ o → N2 o = σ.2.1 o) → ((∀ o, 22 ≤ o → Q2 o = σ.2.2.1 o) ∧ ∀ q, q < sz → isA (σ.2.2.2.1 q) → O2 q = σ.2.2.2.1 q) → XR E z2 (J2, N2, Q2, O2, σ.2.2.2.2) J N (fl0 N) → P v (J2, N2, Q2, O2, σ.2.2.2.2) z2
/-- a refusal: nothing is changed that was there -/
def ZY (σ : zk_S) (sz : Nat) (X : String) (PX : zk_X zk_S) : Prop := ∀ O2 z2, sz ≤ z2 → (∀ q, q < sz → O2 q = σ.2.2.2.1 q) → PX X (σ.1, σ.2.1, σ.2.2.1, O2, σ.2.2.2.2) z2
theorem uj_22 {J : Nat → Nat → Int32} {a k : Nat} {x : Int32} (h : a < 22) : ∀ o, 22 ≤ o → zk_uj J a k x o = J o := fun o ho => by
  funext q
  unfold zk_uj
  rw [if_neg (fun w => by omega)]
theorem un_22 {α : Type} {N : Nat → α} {a : Nat} {A : α} (h : a < 22) : ∀ o, 22 ≤ o → zk_un N a A o = N o := fun o ho => by
  unfold zk_un
  rw [if_neg (fun w => by omega)]
section XRS
variable {E : zk_E} {sz : Nat} {J N J1 N1 : Nat → Nat → Int32} {Q : Nat → Nat → Option Nat} {O : zk_Hp} {U : zk_U} {fl : Nat → Int32}
theorem XR.lim (h : XR E sz (J1, N1, Q, O, U) J N fl) {J2 : Nat → Nat → Int32} (h1 : J2 1 = J1 1) (r : Nat) (l : Int32) : XR E sz (J2, zk_un N1 6 (upd (N1 6) r l), Q, O, U) J (uN_lim N r l) fl := by
  obtain ⟨⟨a1, a2, a3, a4, a5⟩, hB, hC, hD, hT, hG⟩ := h
  refine ⟨⟨?_, ?_, ?_, ?_, ?_⟩, hB, hC, hD, hT, hG⟩
  · rw [← a1]; show J2 1 5 = J1 1 5; rw [h1]
  · rw [← a2]; show J2 1 6 = J1 1 6; rw [h1]
  · rw [← a3]; show J2 1 7 = J1 1 7; rw [h1]
  · rw [← a4]; show J2 1 8 = J1 1 8; rw [h1]
  · intro i hi
    show upd (N1 6) r l i = upd (N 46) r l i
    unfold upd
    split
    · rfl
    · exact a5 i hi
end XRS
section XRS
variable {E : zk_E} {sz : Nat} {J N J1 N1 : Nat → Nat → Int32} {Q : Nat → Nat → Option Nat} {O : zk_Hp} {U : zk_U} {fl : Nat → Int32}
theorem XR.ppl (h : XR E sz (J1, N1, Q, O, U) J N fl) {J2 : Nat → Nat → Int32} (h1 : J2 1 = J1 1) {j b : Nat} (hj : j < 20) (hb : Q 2 j = some b) (hO : O b = some (xrm N j)) (p : Int32) : XR E sz (J2, N1, Q, zk_up O b (cR (nI j) (N 23 j) (N 24 j) (N 25 j) (N 26 j) (N 27 j) (N 28 j) p), U) J (uN_ppl N j p) fl := by
  have hinj := fun r hr a b2 w => h.2.1.inj (r := r) (q := j) (a := a) hr hj b2 w
  obtain ⟨⟨a1, a2, a3, a4, a5⟩, hB, hC, hD, hT, hG⟩ := h
  have hB : XB E sz Q O J N := hB
  have hC : XC E sz Q O J N fl := hC
  have hD : XD E sz Q O J N := hD
  have hT : XT E sz Q O J N := hT
  refine ⟨⟨?_, ?_, ?_, ?_, a5⟩, ?_, ?_, ?_, ?_, hG⟩
  · rw [← a1]; show J2 1 5 = J1 1 5; rw [h1]
  · rw [← a2]; show J2 1 6 = J1 1 6; rw [h1]
  · rw [← a3]; show J2 1 7 = J1 1 7; rw [h1]
  · rw [← a4]; show J2 1 8 = J1 1 8; rw [h1]
  · intro r hr
    rcases hB r hr with ⟨a, b1, b2, b3, b4⟩ | ⟨b1, b2⟩
    · refine Or.inl ⟨a, b1, b2, b3, ?_⟩
      show zk_up O b _ a = _
      by_cases w : r = j
      · subst w
        rw [hb] at b2
        cases b2
        rw [zk_up_same]
        unfold xrm
        rw [show uN_ppl N r p 29 r = upd (N 29) r p r from rfl, upd_self]
        rfl
      · rw [zk_up_ne _ _ (fun z : a = b => w (hinj r hr b (z ▸ b2) hb)), b4]
        unfold xrm
        rw [show uN_ppl N j p 29 r = upd (N 29) j p r from rfl, upd_ne _ _ w]
        rfl
    · exact Or.inr ⟨b1, b2⟩
  · intro i hi
    rcases hC i hi with ⟨a, p2, b1, b2, b3, b4, b5, b6⟩ | ⟨b1, b2⟩
    · refine Or.inl ⟨a, p2, b1, b2, b3, b4, ?_, ?_⟩
      · show zk_up O b _ a = _
        rw [zk_up_ne _ _ (fun w => by rw [w, hO] at b5; cases b5)]
        exact b5
      · show zk_up O b _ p2 = _
        rw [zk_up_ne _ _ (fun w => by rw [w, hO] at b6; cases b6)]
        exact b6
    · exact Or.inr ⟨b1, b2⟩
  · intro r hr
    rcases hD r hr with ⟨a, p2, c, b1, b2, b3, b4, b5, b6, b7⟩ | ⟨b1, b2⟩
    · refine Or.inl ⟨a, p2, c, b1, b2, b3, b4, b5, ?_, ?_⟩
      · show zk_up O b _ a = _
        rw [zk_up_ne _ _ (fun w => by rw [w, hO] at b6; cases b6)]
        exact b6
      · show zk_up O b _ p2 = _
        rw [zk_up_ne _ _ (fun w => by rw [w, hO] at b7; cases b7)]
        exact b7
    · exact Or.inr ⟨b1, b2⟩
  · intro r hr
    rcases hT r hr with ⟨a, b1, b2, b3, b4⟩ | ⟨b1, b2⟩
    · refine Or.inl ⟨a, b1, b2, b3, ?_⟩
      show zk_up O b _ a = _
      rw [zk_up_ne _ _ (fun w => by rw [w, hO] at b4; cases b4)]
      exact b4
    · exact Or.inr ⟨b1, b2⟩
end XRS
def sp_X10_setPeople (E : zk_E) : zk_Sp zk_S := fun av σ sz P PX => match av with
  | [.ref a, .int r, .int p] => a = zk_ad E 0 ∧ ∃ J N, IC E sz σ J N ∧ RD J N r (fun j => (m_isIn p 0 200 = false → ZY σ sz "java/lang/IllegalArgumentException" PX) ∧ (m_isIn p 0 200 = true → ZM E σ sz J (uN_ppl N j p) (some (.int (N 29 j))) P)) (ZY σ sz "java/lang/IndexOutOfBoundsException" PX)
  | _ => False
theorem spe_X10_setPeople (E : zk_E) (a : Nat) (r : Int32) (p : Int32) (σ : zk_S) (sz : Nat) (P : zk_P zk_S) (PX : zk_X zk_S) : sp_X10_setPeople E [.ref a, .int r, .int p] σ sz P PX = (a = zk_ad E 0 ∧ ∃ J N, IC E sz σ J N ∧ RD J N r (fun j => (m_isIn p 0 200 = false → ZY σ sz "java/lang/IllegalArgumentException" PX) ∧ (m_isIn p 0 200 = true → ZM E σ sz J (uN_ppl N j p) (some (.int (N 29 j))) P)) (ZY σ sz "java/lang/IndexOutOfBoundsException" PX)) := propext Iff.rfl
def C_X10_setPeople (E : zk_E) : zk_Cl zk_S := zk_lka [(2, 2, 1, 6, zk_rv (zk_VT E) (fun ci => Nat.beq ci 9) (sp_X10_roomThere E)), (11, 3, 0, 0, sp_X10_isWithin E)]
theorem r_X10_setPeople (E : zk_E) (P : zk_P zk_S) (PX : zk_X zk_S) (K : Nat → zk_L → List Value → zk_W zk_S → Prop) : (∀ (n : Nat) (l1 l2 l3 l4 : Option Value) (y0 : Value) (r : List Value) (σ : zk_S) (sz k c : Nat), zk_run E (zk_VT E) M_X10_setPeople (C_X10_setPeople E) P PX K (n + 1) 0 [some y0, l1, l2, l3, l4] r (σ, sz, k, c) = (zk_isr y0 ∧ zk_run E (zk_VT E) M_X10_setPeople (C_X10_setPeople E) P PX K n 1 [some y0, l1, l2, l3, l4] (y0 :: r) (σ, sz, k, c))) ∧
  (∀ (n : Nat) (l0 l2 l3 l4 : Option Value) (y1 : Int32) (r : List Value) (σ : zk_S) (sz k c : Nat), zk_run E (zk_VT E) M_X10_setPeople (C_X10_setPeople E) P PX K (n + 1) 1 [l0, some (.int y1), l2, l3, l4] r (σ, sz, k, c) = zk_run E (zk_VT E) M_X10_setPeople (C_X10_setPeople E) P PX K n 2 [l0, some (.int y1), l2, l3, l4] (.int y1 :: r) (σ, sz, k, c)) ∧
  (∀ (n : Nat) (l0 l1 l2 l3 l4 : Option Value) (v0 : Value) (v1 : Value)  (σ : zk_S) (sz k c : Nat), zk_run E (zk_VT E) M_X10_setPeople (C_X10_setPeople E) P PX K (n + 1) 2 [l0, l1, l2, l3, l4] [v0, v1] (σ, sz, k, c) = (k + 1 ≤ 2 ∧ c + 6 ≤ 12 ∧ (zk_rv (zk_VT E) (fun ci => Nat.beq ci 9) (sp_X10_roomThere E)) [v1, v0] σ sz (fun v s2 z2 => zk_run E (zk_VT E) M_X10_setPeople (C_X10_setPeople E) P PX K n 5 [l0, l1, l2, l3, l4] (zk_psh v []) (s2, z2, k + 1, c + 6)) (fun X s2 z2 => PX X s2 z2))) ∧
  (∀ (n : Nat) (l0 l1 l2 l3 l4 : Option Value) (x : Value) (r : List Value) (σ : zk_S) (sz k c : Nat), zk_run E (zk_VT E) M_X10_setPeople (C_X10_setPeople E) P PX K (n + 1) 5 [l0, l1, l2, l3, l4] (x :: r) (σ, sz, k, c) = (zk_isr x ∧ zk_run E (zk_VT E) M_X10_setPeople (C_X10_setPeople E) P PX K n 6 [l0, l1, zk_kl l2, some (x), l4] r (σ, sz, k, c))) ∧
  (∀ (n : Nat) (l0 l1 l3 l4 : Option Value) (y2 : Int32) (r : List Value) (σ : zk_S) (sz k c : Nat), zk_run E (zk_VT E) M_X10_setPeople (C_X10_setPeople E) P PX K (n + 1) 6 [l0, l1, some (.int y2), l3, l4] r (σ, sz, k, c) = zk_run E (zk_VT E) M_X10_setPeople (C_X10_setPeople E) P PX K n 7 [l0, l1, some (.int y2), l3, l4] (.int y2 :: r) (σ, sz, k, c)) ∧
  (∀ (n : Nat) (l0 l1 l2 l3 l4 : Option Value)  (r : List Value) (σ : zk_S) (sz k c : Nat), zk_run E (zk_VT E) M_X10_setPeople (C_X10_setPeople E) P PX K (n + 1) 7 [l0, l1, l2, l3, l4] r (σ, sz, k, c) = zk_run E (zk_VT E) M_X10_setPeople (C_X10_setPeople E) P PX K n 8 [l0, l1, l2, l3, l4] (.int (0) :: r) (σ, sz, k, c)) ∧
  (∀ (n : Nat) (l0 l1 l2 l3 l4 : Option Value)  (r : List Value) (σ : zk_S) (sz k c : Nat), zk_run E (zk_VT E) M_X10_setPeople (C_X10_setPeople E) P PX K (n + 1) 8 [l0, l1, l2, l3, l4] r (σ, sz, k, c) = zk_run E (zk_VT E) M_X10_setPeople (C_X10_setPeople E) P PX K n 11 [l0, l1, l2, l3, l4] (.int (200) :: r) (σ, sz, k, c)) ∧
  (∀ (n : Nat) (l0 l1 l2 l3 l4 : Option Value) (v0 : Value) (v1 : Value) (v2 : Value)  (σ : zk_S) (sz k c : Nat), zk_run E (zk_VT E) M_X10_setPeople (C_X10_setPeople E) P PX K (n + 1) 11 [l0, l1, l2, l3, l4] [v0, v1, v2] (σ, sz, k, c) = (k + 0 ≤ 2 ∧ c + 0 ≤ 12 ∧ (sp_X10_isWithin E) [v2, v1, v0] σ sz (fun v s2 z2 => zk_run E (zk_VT E) M_X10_setPeople (C_X10_setPeople E) P PX K n 14 [l0, l1, l2, l3, l4] (zk_psh v []) (s2, z2, k + 0, c + 0)) (fun X s2 z2 => PX X s2 z2))) ∧
  (∀ (n : Nat) (l0 l1 l2 l3 l4 : Option Value) (x : Int32) (r : List Value) (σ : zk_S) (sz k c : Nat), zk_run E (zk_VT E) M_X10_setPeople (C_X10_setPeople E) P PX K (n + 1) 14 [l0, l1, l2, l3, l4] (.int x :: r) (σ, sz, k, c) = ((¬ x = 0 → zk_run E (zk_VT E) M_X10_setPeople (C_X10_setPeople E) P PX K n 27 [l0, l1, l2, l3, l4] r (σ, sz, k, c)) ∧ (¬ (¬ x = 0) → zk_run E (zk_VT E) M_X10_setPeople (C_X10_setPeople E) P PX K n 17 [l0, l1, l2, l3, l4] r (σ, sz, k, c)))) ∧
  (∀ (n : Nat) (l0 l1 l2 l3 l4 : Option Value)   (σ : zk_S) (sz k c : Nat), zk_run E (zk_VT E) M_X10_setPeople (C_X10_setPeople E) P PX K (n + 1) 17 [l0, l1, l2, l3, l4] [] (σ, sz, k, c) = (([] : List Value) = [] ∧ (∀ z2, sz ≤ z2 → PX "java/lang/IllegalArgumentException" σ z2) ∧ k + 1 ≤ 2 ∧ c + 6 ≤ 12)) ∧
  (∀ (n : Nat) (l0 l1 l2 l4 : Option Value) (y3 : Value) (r : List Value) (σ : zk_S) (sz k c : Nat), zk_run E (zk_VT E) M_X10_setPeople (C_X10_setPeople E) P PX K (n + 1) 27 [l0, l1, l2, some y3, l4] r (σ, sz, k, c) = (zk_isr y3 ∧ zk_run E (zk_VT E) M_X10_setPeople (C_X10_setPeople E) P PX K n 28 [l0, l1, l2, some y3, l4] (y3 :: r) (σ, sz, k, c))) ∧
  (∀ (n : Nat) (l0 l1 l2 l3 l4 : Option Value) (a : Nat) (r : List Value) (σ : zk_S) (sz k c : Nat), zk_run E (zk_VT E) M_X10_setPeople (C_X10_setPeople E) P PX K (n + 1) 28 [l0, l1, l2, l3, l4] (.ref a :: r) (σ, sz, k, c) = zk_fld (zk_view E σ a) [5] 7 (fun v => zk_run E (zk_VT E) M_X10_setPeople (C_X10_setPeople E) P PX K n 31 [l0, l1, l2, l3, l4] (v :: r) (σ, sz, k, c))) ∧
  (∀ (n : Nat) (l0 l1 l2 l3 l4 : Option Value) (x : Int32) (r : List Value) (σ : zk_S) (sz k c : Nat), zk_run E (zk_VT E) M_X10_setPeople (C_X10_setPeople E) P PX K (n + 1) 31 [l0, l1, l2, l3, l4] (.int x :: r) (σ, sz, k, c) = zk_run E (zk_VT E) M_X10_setPeople (C_X10_setPeople E) P PX K n 33 [l0, l1, l2, zk_kl l3, some (.int x)] r (σ, sz, k, c)) ∧
  (∀ (n : Nat) (l0 l1 l2 l4 : Option Value) (y3 : Value) (r : List Value) (σ : zk_S) (sz k c : Nat), zk_run E (zk_VT E) M_X10_setPeople (C_X10_setPeople E) P PX K (n + 1) 33 [l0, l1, l2, some y3, l4] r (σ, sz, k, c) = (zk_isr y3 ∧ zk_run E (zk_VT E) M_X10_setPeople (C_X10_setPeople E) P PX K n 34 [l0, l1, l2, some y3, l4] (y3 :: r) (σ, sz, k, c))) ∧
  (∀ (n : Nat) (l0 l1 l3 l4 : Option Value) (y2 : Int32) (r : List Value) (σ : zk_S) (sz k c : Nat), zk_run E (zk_VT E) M_X10_setPeople (C_X10_setPeople E) P PX K (n + 1) 34 [l0, l1, some (.int y2), l3, l4] r (σ, sz, k, c) = zk_run E (zk_VT E) M_X10_setPeople (C_X10_setPeople E) P PX K n 35 [l0, l1, some (.int y2), l3, l4] (.int y2 :: r) (σ, sz, k, c)) ∧
  (∀ (n : Nat) (l0 l1 l2 l3 l4 : Option Value) (a : Nat) (v : Value) (r : List Value) (σ : zk_S) (sz k c : Nat), zk_run E (zk_VT E) M_X10_setPeople (C_X10_setPeople E) P PX K (n + 1) 35 [l0, l1, l2, l3, l4] (v :: .ref a :: r) (σ, sz, k, c) = zk_put (zk_view E σ a) [5] 7 0 v (zk_pfok E σ a 7 v ∧ zk_run E (zk_VT E) M_X10_setPeople (C_X10_setPeople E) P PX K n 38 [l0, l1, l2, l3, l4] r (zk_pf E σ a 7 v, sz, k, c))) ∧
  (∀ (n : Nat) (l1 l2 l3 l4 : Option Value) (y0 : Value) (r : List Value) (σ : zk_S) (sz k c : Nat), zk_run E (zk_VT E) M_X10_setPeople (C_X10_setPeople E) P PX K (n + 1) 38 [some y0, l1, l2, l3, l4] r (σ, sz, k, c) = (zk_isr y0 ∧ zk_run E (zk_VT E) M_X10_setPeople (C_X10_setPeople E) P PX K n 39 [some y0, l1, l2, l3, l4] (y0 :: r) (σ, sz, k, c))) ∧
  (∀ (n : Nat) (l0 l1 l2 l3 l4 : Option Value)  (r : List Value) (σ : zk_S) (sz k c : Nat), zk_run E (zk_VT E) M_X10_setPeople (C_X10_setPeople E) P PX K (n + 1) 39 [l0, l1, l2, l3, l4] r (σ, sz, k, c) = zk_run E (zk_VT E) M_X10_setPeople (C_X10_setPeople E) P PX K n 40 [l0, l1, l2, l3, l4] (.int (0) :: r) (σ, sz, k, c)) ∧
  (∀ (n : Nat) (l0 l1 l2 l3 l4 : Option Value) (a : Nat) (v : Value) (r : List Value) (σ : zk_S) (sz k c : Nat), zk_run E (zk_VT E) M_X10_setPeople (C_X10_setPeople E) P PX K (n + 1) 40 [l0, l1, l2, l3, l4] (v :: .ref a :: r) (σ, sz, k, c) = zk_put (zk_view E σ a) [9] 4 1 v (zk_pfok E σ a 4 v ∧ zk_run E (zk_VT E) M_X10_setPeople (C_X10_setPeople E) P PX K n 43 [l0, l1, l2, l3, l4] r (zk_pf E σ a 4 v, sz, k, c))) ∧
  (∀ (n : Nat) (l0 l1 l2 l3 : Option Value) (y4 : Int32) (r : List Value) (σ : zk_S) (sz k c : Nat), zk_run E (zk_VT E) M_X10_setPeople (C_X10_setPeople E) P PX K (n + 1) 43 [l0, l1, l2, l3, some (.int y4)] r (σ, sz, k, c) = zk_run E (zk_VT E) M_X10_setPeople (C_X10_setPeople E) P PX K n 45 [l0, l1, l2, l3, some (.int y4)] (.int y4 :: r) (σ, sz, k, c)) ∧
  (∀ (n : Nat) (l0 l1 l2 l3 l4 : Option Value) (x : Int32)  (σ : zk_S) (sz k c : Nat), zk_run E (zk_VT E) M_X10_setPeople (C_X10_setPeople E) P PX K (n + 1) 45 [l0, l1, l2, l3, l4] [.int x] (σ, sz, k, c) = (zk_nok (some (.int)) x ∧ P (some (.int x)) σ sz ∧ k ≤ 2 ∧ c ≤ 12)) ∧
  (∀ (n : Nat) (l0 l1 l2 l3 l4 : Option Value) (r : List Value) (w : zk_W zk_S), zk_go E (zk_VT E) M_X10_setPeople (C_X10_setPeople E) P PX K n 0 [l0, l1, l2, l3, l4] r w = zk_run E (zk_VT E) M_X10_setPeople (C_X10_setPeople E) P PX K (n + 1) 0 [l0, l1, l2, l3, l4] r w) := ⟨by intros; rfl, by intros; rfl, by intros; rfl, by intros; rfl, by intros; rfl, by intros; rfl, by intros; rfl, by intros; rfl, by intros; rfl, by intros; rfl, by intros; rfl, by intros; rfl, by intros; rfl, by intros; rfl, by intros; rfl, by intros; rfl, by intros; rfl, by intros; rfl, by intros; rfl, by intros; rfl, by intros; rfl, by intros; rfl⟩
theorem vc_X10_setPeople (E : zk_E) : zk_VC E (zk_VT E) M_X10_setPeople (C_X10_setPeople E) 5 (sp_X10_setPeople E) := by
  intro av σ sz P PX h
  obtain ⟨J, N, Q, O, U⟩ := σ
  unfold sp_X10_setPeople at h
  split at h
  case h_2 => exact h.elim
  rename_i a0 r p
  obtain ⟨rfl, h⟩ := h
  refine ⟨Nat.le_of_ble_eq_true rfl, fun G hG => ?_⟩
  change G 0 [some (.ref (zk_ad E 0)), some (.int r), some (.int p), none, none] [] ((J, N, Q, O, U), sz, 0, 0)
  try dsimp only at h
  obtain ⟨J1, N1, ⟨hmi, hxr, hrk⟩, h⟩ := h
  rcases h with ⟨j, hj, rfl, h1, h2⟩ | ⟨hr, h⟩
  · obtain ⟨b, hb, hbo, hOb⟩ := hxr.2.1.room hmi hj
    have hb : Q 2 j = some b := hb
    have hOb : O b = some (xrm N1 j) := hOb
    have hb1 := hbo.1
    have hj20 := hj.lt hmi
    have in19 : m_isIn (nI j) 0 19 = true := n_isIn (by decide) hj20 (by decide)
    have hcl : (nI j).toNatClampNeg = j := n_cl (by omega)
    cases q : m_isIn p 0 200 with
    | false =>
      have h := h1 q
      (refine hG 900 _ _ _ _ ?_; simp only [r_X10_setPeople, zk_kl_none, zk_kl_int, zk_kl_ref, zk_kl_null, zk_kl_long, zk_kl_rf, zk_isr_ref, zk_isr_null, zk_isr_rf9, zk_c1_int, zk_c1_ref, zk_c1_null, zk_c1_rf, zk_psh_some, zk_psh_none, zk_nok_int, zk_nok_bool0, zk_nok_bool1, zk_nok_b, zk_fok_0, zk_fok_1, zk_fok_2, zk_fok_n, zk_fok_rf, zb_f, zb_p, zb_i, zb_a, zb_s, zk_nth_0, zk_nth_s, zk_fld_o, zk_put_o, zk_rv_eq, zk_ri_eq, zk_is_o, List.mem_cons, List.not_mem_nil, or_false, false_or, or_true, true_or, and_true, true_and, not_false_iff, not_true_eq_false, true_implies, false_implies, imp_self, implies_true, forall_const, zk_lit, zk_uj_ap, zk_un_ap, zk_un_un, zk_uj_uj, Nat.reduceEqDiff, eq_self, zk_bq, Bool.true_or, Bool.false_or, Nat.le_refl, Nat.zero_add, Nat.add_zero, Nat.reduceAdd, Nat.reduceLeDiff, Nat.le_zero_eq, and_self, and_false, false_and, ite_true, ite_false, Nat.zero_le, List.length_cons, List.length_nil, Option.some.injEq, forall_eq', reduceCtorEq, spe_X10_roomThere, in19, hcl, hb, Bool.true_eq_false, spe_X10_isWithin, q, zk_b0])
      exact fun z2 hz => h O z2 hz (fun _ _ => rfl)
    | true =>
      have h := h2 q (zk_uj J 0 4 0) N Q _ sz (Nat.le_refl _) rfl (uj_22 (by decide)) (fun _ _ => rfl) ⟨fun _ _ => rfl, fun q _ => isA_up _ hOb q⟩ (hxr.ppl rfl hj20 hb hOb p)
      have g7 : ∀ F : Value → Prop, zk_fld (O b) [5] 7 F = F (.int (N1 29 j)) := fun F => by rw [hOb]; simp [zk_fld_o, xrm, cR, zk_nth]
      have pu : zk_po O b 7 (.int p) = zk_up O b (cR (nI j) (N1 23 j) (N1 24 j) (N1 25 j) (N1 26 j) (N1 27 j) (N1 28 j) p) := po_up hOb 7 (.int p)
      have gp : ∀ F, zk_put (O b) [5] 7 0 (.int p) F = F := fun F => by rw [hOb]; simp [zk_put_o, xrm, cR, zk_fok]
      (refine hG 900 _ _ _ _ ?_; simp only [r_X10_setPeople, zk_kl_none, zk_kl_int, zk_kl_ref, zk_kl_null, zk_kl_long, zk_kl_rf, zk_isr_ref, zk_isr_null, zk_isr_rf9, zk_c1_int, zk_c1_ref, zk_c1_null, zk_c1_rf, zk_psh_some, zk_psh_none, zk_nok_int, zk_nok_bool0, zk_nok_bool1, zk_nok_b, zk_fok_0, zk_fok_1, zk_fok_2, zk_fok_n, zk_fok_rf, zb_f, zb_p, zb_i, zb_a, zb_s, zk_nth_0, zk_nth_s, zk_fld_o, zk_put_o, zk_rv_eq, zk_ri_eq, zk_is_o, List.mem_cons, List.not_mem_nil, or_false, false_or, or_true, true_or, and_true, true_and, not_false_iff, not_true_eq_false, true_implies, false_implies, imp_self, implies_true, forall_const, zk_lit, zk_uj_ap, zk_un_ap, zk_un_un, zk_uj_uj, Nat.reduceEqDiff, eq_self, zk_bq, Bool.true_or, Bool.false_or, Nat.le_refl, Nat.zero_add, Nat.add_zero, Nat.reduceAdd, Nat.reduceLeDiff, Nat.le_zero_eq, and_self, and_false, false_and, ite_true, ite_false, Nat.zero_le, List.length_cons, List.length_nil, Option.some.injEq, forall_eq', reduceCtorEq, spe_X10_roomThere, in19, hcl, hb, Bool.true_eq_false, spe_X10_isWithin, q, zk_b0, zk_vd hb1, g7, zk_pfd _ _ hb1, zk_pod _ _ hb1, pu, gp])
      exact h
  · rcases hxr.noroom hmi.1 hr with q | ⟨q, q2⟩
    · (refine hG 900 _ _ _ _ ?_; simp only [r_X10_setPeople, zk_kl_none, zk_kl_int, zk_kl_ref, zk_kl_null, zk_kl_long, zk_kl_rf, zk_isr_ref, zk_isr_null, zk_isr_rf9, zk_c1_int, zk_c1_ref, zk_c1_null, zk_c1_rf, zk_psh_some, zk_psh_none, zk_nok_int, zk_nok_bool0, zk_nok_bool1, zk_nok_b, zk_fok_0, zk_fok_1, zk_fok_2, zk_fok_n, zk_fok_rf, zb_f, zb_p, zb_i, zb_a, zb_s, zk_nth_0, zk_nth_s, zk_fld_o, zk_put_o, zk_rv_eq, zk_ri_eq, zk_is_o, List.mem_cons, List.not_mem_nil, or_false, false_or, or_true, true_or, and_true, true_and, not_false_iff, not_true_eq_false, true_implies, false_implies, imp_self, implies_true, forall_const, zk_lit, zk_uj_ap, zk_un_ap, zk_un_un, zk_uj_uj, Nat.reduceEqDiff, eq_self, zk_bq, Bool.true_or, Bool.false_or, Nat.le_refl, Nat.zero_add, Nat.add_zero, Nat.reduceAdd, Nat.reduceLeDiff, Nat.le_zero_eq, and_self, and_false, false_and, ite_true, ite_false, Nat.zero_le, List.length_cons, List.length_nil, Option.some.injEq, forall_eq', reduceCtorEq, spe_X10_roomThere, q, Bool.false_eq_true])
      exact fun z2 hz => h O z2 hz (fun _ _ => rfl)
    · (refine hG 900 _ _ _ _ ?_; simp only [r_X10_setPeople, zk_kl_none, zk_kl_int, zk_kl_ref, zk_kl_null, zk_kl_long, zk_kl_rf, zk_isr_ref, zk_isr_null, zk_isr_rf9, zk_c1_int, zk_c1_ref, zk_c1_null, zk_c1_rf, zk_psh_some, zk_psh_none, zk_nok_int, zk_nok_bool0, zk_nok_bool1, zk_nok_b, zk_fok_0, zk_fok_1, zk_fok_2, zk_fok_n, zk_fok_rf, zb_f, zb_p, zb_i, zb_a, zb_s, zk_nth_0, zk_nth_s, zk_fld_o, zk_put_o, zk_rv_eq, zk_ri_eq, zk_is_o, List.mem_cons, List.not_mem_nil, or_false, false_or, or_true, true_or, and_true, true_and, not_false_iff, not_true_eq_false, true_implies, false_implies, imp_self, implies_true, forall_const, zk_lit, zk_uj_ap, zk_un_ap, zk_un_un, zk_uj_uj, Nat.reduceEqDiff, eq_self, zk_bq, Bool.true_or, Bool.false_or, Nat.le_refl, Nat.zero_add, Nat.add_zero, Nat.reduceAdd, Nat.reduceLeDiff, Nat.le_zero_eq, and_self, and_false, false_and, ite_true, ite_false, Nat.zero_le, List.length_cons, List.length_nil, Option.some.injEq, forall_eq', reduceCtorEq, spe_X10_roomThere, q, q2])
      exact fun z2 hz => h O z2 hz (fun _ _ => rfl)
theorem ct_X10_setPeople {l : Launch} (hl : l.stackTraces = false) (E : zk_E) : zk_C l E (zk_VT E) yX10_setPeople cX10_setPeople 5 (some (.int)) rm_X10_setPeople (sp_X10_setPeople E) := by
  refine zk_meth (M := M_X10_setPeople) (C := C_X10_setPeople E) hl (by decide +kernel) rfl (fun _ _ => rfl) (zk_VT_ok E) MO_X10_setPeople TO_X10_setPeople THo_X10_setPeople ?_ (vc_X10_setPeople E)
  exact fun p e s m args below meth c X pc n mc ms sp2 h => by
    have h2 := zk_lka_mem h
    simp only [List.mem_cons, List.not_mem_nil, or_false, Prod.mk.injEq] at h2
    rcases h2 with ⟨rfl, rfl, rfl, rfl, rfl⟩ | ⟨rfl, rfl, rfl, rfl, rfl⟩
    · exact zk_coV (idx := 76) X (ct_X10_roomThere hl E) (List.forall_mem_cons.mpr ⟨zk_wi 105 (by decide +kernel) rfl, List.forall_mem_cons.mpr ⟨zk_wi 107 (by decide +kernel) rfl, List.forall_mem_cons.mpr ⟨zk_wp 2 (by decide +kernel) rfl, List.forall_mem_cons.mpr ⟨zk_wi 2 (by decide +kernel) rfl, List.forall_mem_cons.mpr ⟨zk_wi 108 (by decide +kernel) rfl, fun _ h => absurd h List.not_mem_nil⟩⟩⟩⟩⟩) (fun ci h => by
      have h := Nat.eq_of_beq_eq_true h
      subst h
      exact ⟨_, _, rfl⟩) (by decide +kernel) ⟨by decide, by decide, by decide +kernel⟩ ⟨by decide, by decide⟩
    · exact zk_coS (idx := 41) X (ct_X10_isWithin hl E) (List.forall_mem_cons.mpr ⟨zk_wi 28 (by decide +kernel) rfl, List.forall_mem_cons.mpr ⟨zk_wi 29 (by decide +kernel) rfl, List.forall_mem_cons.mpr ⟨zk_wi 2 (by decide +kernel) rfl, List.forall_mem_cons.mpr ⟨zk_wi 30 (by decide +kernel) rfl, fun _ h => absurd h List.not_mem_nil⟩⟩⟩⟩) (by decide +kernel) ⟨by decide, by decide, by decide +kernel⟩ ⟨by decide, by decide⟩


