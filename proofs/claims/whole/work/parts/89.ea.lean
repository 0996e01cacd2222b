/-! both sides between two calls of the law -/
def LI (E : zk_E) (sz : Nat) (σ : zk_S) : Prop := E.1 + 55 ≤ sz ∧ IC E sz σ σ.1 σ.2.1
/-- the reference's rows stay, the class's objects stand beside the plan (J N) -/
def LC (E : zk_E) (σ : zk_S) (sz : Nat) (σ2 : zk_S) (sz2 : Nat) (J N : Nat → Nat → Int32) : Prop := sz ≤ sz2 ∧ (∀ o, 22 ≤ o → σ2.1 o = σ.1 o) ∧ (∀ o, 22 ≤ o → σ2.2.1 o = σ.2.1 o) ∧ XR E sz2 σ2 J N (fl0 N) ∧ (σ2.1 0 4 = 0 ∨ CF J N σ2.1 σ2.2.1)
theorem LC.es {E : zk_E} {σ σ2 : zk_S} {sz sz2 : Nat} {J N : Nat → Nat → Int32} (h : LC E σ sz σ2 sz2 J N) : ES σ.1 σ2.1 σ.2.1 σ2.2.1 :=
  ⟨by rw [h.2.1 22 (by decide)], by rw [h.2.1 22 (by decide)], by rw [h.2.1 22 (by decide)], by rw [h.2.1 22 (by decide)], fun o h1 _ => h.2.2.1 o (by omega)⟩
theorem LC.ke {E : zk_E} {J N J2 N2 : Nat → Nat → Int32} {Q : Nat → Nat → Option Nat} {O : zk_Hp} {U U2 : Nat → Int64} {sz z2 : Nat} (hi : LI E sz (J, N, Q, O, U)) (hk : KE J J2 N N2) (hc : J2 0 4 = 0 ∨ CF J N J2 N2) (hz : sz ≤ z2) : LC E (J, N, Q, O, U) sz (J2, N2, Q, O, U2) z2 J N :=
  ⟨hz, fun o ho => by funext k; exact hk.1 o k (by omega) (by omega), fun o ho => hk.2 o (by omega),
    XR.grow (U := U) (XR.cn (U2 := U) hi.2.2.1 (by funext k; exact hk.1 1 k (by omega) (by omega)) (hk.2 6 (by omega))) (fun _ _ => rfl) hz, hc⟩
theorem LC.zy {E : zk_E} {J N : Nat → Nat → Int32} {Q : Nat → Nat → Option Nat} {O O2 : zk_Hp} {U U2 : Nat → Int64} {sz z2 : Nat} (hi : LI E sz (J, N, Q, O, U)) (hO : ∀ q, q < sz → O2 q = O q) (hz : sz ≤ z2) : LC E (J, N, Q, O, U) sz (J, N, Q, O2, U2) z2 J N :=
  ⟨hz, fun _ _ => rfl, fun _ _ => rfl, hi.2.2.1.grow hO hz, hi.2.2.2⟩
/-- the class goes on beside what the reference's call leaves -/
theorem LC.go {E : zk_E} {σ : zk_S} {sz sz2 sz3 : Nat} {Jg Ng J2 N2 J3 N3 : Nat → Nat → Int32} {Q2 : Nat → Nat → Option Nat} {O2 O3 : zk_Hp} {U2 U3 : Nat → Int64} (hi : LI E sz σ) (h : LC E σ sz (J2, N2, Q2, O2, U2) sz2 Jg Ng) (hmi : MI Jg Ng) (hJ : ∀ o, o < 22 → J3 o = J2 o) (hN : ∀ o, o < 22 → N3 o = N2 o) (hO : ∀ q, q < sz2 → O3 q = O2 q) (hz : sz2 ≤ sz3) (hg : GH Jg Ng J3 N3) : LI E sz3 (J3, N3, Q2, O3, U3) := by
  obtain ⟨h1, h2, h3, h4, h5⟩ := h
  refine ⟨Nat.le_trans (Nat.le_trans hi.1 h1) hz, IC.gh (J := Jg) (N := Ng) ⟨hmi, ?_, ?_⟩ hg⟩
  · exact (XR.cn (J2 := J3) (N2 := N3) (U2 := U3) h4 (hJ 1 (by decide)) (hN 6 (by decide))).grow hO hz
  · have e4 : J3 0 4 = J2 0 4 := by rw [hJ 0 (by decide)]
    rcases h5 with h5 | h5
    · exact Or.inl (e4.trans h5)
    · exact Or.inr (CF.same (J2 := J3) (N2 := N3) h5 e4 (by rw [hJ 18 (by decide)]) (fun o ho => hN o (by omega)))
theorem GH.refl (J N : Nat → Nat → Int32) : GH J N J N := ⟨⟨rfl, rfl, rfl, rfl⟩, fun _ _ _ _ _ => rfl, fun _ _ _ => rfl⟩
theorem ES.gh {J N J2 N2 : Nat → Nat → Int32} (h : ES J J2 N N2) : GH J N J2 N2 := ⟨⟨h.1, h.2.1, h.2.2.1, h.2.2.2.1⟩, fun o h1 h2 k _ => by rw [h.2.2.2.2 o h1 (by omega)], fun o h1 h2 => h.2.2.2.2 o (by omega) h2⟩
/-- after a question of the class and the reference's -/
theorem LC.qe {E : zk_E} {σ : zk_S} {sz sz2 sz3 : Nat} {J2 N2 J3 N3 : Nat → Nat → Int32} {Q2 : Nat → Nat → Option Nat} {O2 O3 : zk_Hp} {U2 U3 : Nat → Int64} {t : Int32} (hi : LI E sz σ) (h : LC E σ sz (J2, N2, Q2, O2, U2) sz2 σ.1 σ.2.1) (hq : QE J2 J3 N2 N3 t) (hO : ∀ q, q < sz2 → O3 q = O2 q) (hz : sz2 ≤ sz3) : LI E sz3 (J3, N3, Q2, O3, U3) :=
  h.go hi hi.2.1 (fun o ho => by funext k; exact hq.1.1 o k (by omega)) (fun o ho => hq.1.2 o (by omega)) hO hz (h.es.trans hq.es).gh
/-- after a refusal of both -/
theorem LC.wq {E : zk_E} {σ : zk_S} {sz sz2 : Nat} {J2 N2 J3 N3 : Nat → Nat → Int32} {Q2 : Nat → Nat → Option Nat} {O2 : zk_Hp} {U2 : Nat → Int64} {t : Int32} (hi : LI E sz σ) (h : LC E σ sz (J2, N2, Q2, O2, U2) sz2 σ.1 σ.2.1) (hq : WQ J2 J3 N2 N3 t) : LI E sz2 (J3, N3, Q2, O2, U2) := by
  obtain ⟨rfl, hw, hn⟩ := hq
  have e : ES σ.1 J2 σ.2.1 N2 := h.es
  refine h.go hi hi.2.1 (fun o ho => by funext k; unfold zk_uj; rw [if_neg (by omega)]) (fun o ho => hn o (by omega)) (fun _ _ => rfl) (Nat.le_refl _) ⟨⟨e.1, e.2.1, e.2.2.1, e.2.2.2.1⟩, fun o h1 h2 k hk => ?_, fun o h1 h2 => ?_⟩
  · rw [hw.1 o h1 h2 k (by rw [e.nr]; exact hk), e.2.2.2.2 o h1 (by omega)]
  · rw [hw.2 o h1 h2, e.2.2.2.2 o (by omega) h2]

