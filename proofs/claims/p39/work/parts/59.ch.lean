/-! whether a piece can be put in, told by both -/
theorem ons_e (N : Nat → Nat → Int32) (k : Nat) (f up ix iy iw : Int32) : m_ons (some (cP f up (p_line up ix iy) (p_start up ix iy) iw)) (some (xrm N k)) = (decide (N 23 k = f) && p_on N k up ix iy iw) := by
  unfold m_ons m_onl p_on xrm
  simp only [fI_P, fI_R, Bool.and_assoc]
theorem tos_e (N : Nat → Nat → Int32) (k : Nat) (f up ix iy iw : Int32) : m_tos (some (cP f up (p_line up ix iy) (p_start up ix iy) iw)) (some (xrm N k)) = (decide (N 23 k = f) && p_to N k up ix iy iw) := by
  unfold m_tos m_onl p_to xrm
  simp only [fI_P, fI_R, Bool.and_assoc]
theorem p_sh_comm (a b l tl s ts w tw : Int32) : p_sh a b l tl s ts w tw = p_sh b a tl l ts s tw w := by
  unfold p_sh
  rw [Bool.eq_iff_iff]
  simp only [Bool.and_eq_true, decide_eq_true_eq]
  constructor <;> rintro ⟨h1, h2, h3, h4⟩ <;> exact ⟨h1.symm, h2.symm, h4, h3⟩
section XRS
variable {E : zk_E} {sz : Nat} {J N J1 N1 : Nat → Nat → Int32} {Q : Nat → Nat → Option Nat} {O : zk_Hp} {U : zk_U} {fl : Nat → Int32}
theorem XR.place (h : XR E sz (J1, N1, Q, O, U) J N fl) (hmi : MI J N) {j b : Nat} {o ix iy up iw : Int32} {oo : Option Nat} (hj : MR J N j) (hb : Q 2 j = some b) (ho : (o = -1 ∧ oo = none) ∨ ∃ k c, MR J N k ∧ o = nI k ∧ Q 2 k = some c ∧ oo = some c ∧ N 23 k = N 23 j) (hw : VN iw 1 6) :
    h_pl Q O (some (cP (N 23 j) up (p_line up ix iy) (p_start up ix iy) iw)) b oo = m_canBe J N j o ix iy up iw := by
  have hms := hmi.1
  have hr20 := hms.1.2
  have hd40 := hms.2.1.2
  have hw40 := hms.2.2.1.2
  have hj20 := hj.lt hmi
  have hOb : O b = some (xrm N j) := (h.2.1.back hj20 hb).2.2
  unfold h_pl m_canBe
  rw [hOb, ons_e, decide_eq_true (rfl : N 23 j = N 23 j), Bool.true_and, on_iff (GR.of hmi hj.1) hw]
  cases q1 : p_on N j up ix iy iw with
  | false => rfl
  | true =>
    rw [Bool.true_and, Bool.true_and]
    have hp : VN ix 0 90 ∧ VN iy 0 90 := by
      rw [← on_iff (GR.of hmi hj.1) hw] at q1
      exact on_rg (GR.of hmi hj.1) hw (of_decide_eq_true q1)
    have eD : m_ex (d_sh Q O (some (cP (N 23 j) up (p_line up ix iy) (p_start up ix iy) iw))) 40 = m_ex (m_cbD N j ix iy up iw) (m_nd J) := by
      have key : ∀ d, d < 40 → d_sh Q O (some (cP (N 23 j) up (p_line up ix iy) (p_start up ix iy) iw)) d = (decide (d < m_nd J) && m_cbD N j ix iy up iw d) := fun d hd => by
        unfold d_sh m_cbD
        rcases h.2.2.1 d hd with ⟨a, p, h0, h1, -, -, h4, h5⟩ | ⟨h0, h1⟩
        · obtain ⟨-, g1, g2, g3, -, -⟩ := hmi.2.2.1 d h0.1
          rw [show Q 3 d = some a from h1, decide_eq_true h0.1, Bool.true_and, decide_eq_true h0.2, Bool.true_and]
          dsimp only
          rw [show O a = some (xdr N Q fl d p) from h4]
          have e2 : fR (some (xdr N Q fl d p)) 7 = some p := rfl
          rw [e2]
          unfold fO
          dsimp only
          rw [show O p = some (xdp N d) from h5, sh_iff hw hp ⟨g1, g2⟩ g3]
          unfold m_shw xdp
          simp only [fI_P]
          rw [p_sh_comm]
        · rw [show Q 3 d = none from h1]
          dsimp only
          by_cases w : d < m_nd J
          · have : N 30 d = -2 := Decidable.byContradiction fun z => h0 ⟨w, z⟩
            rw [decide_eq_false (not_not_intro this), Bool.false_and, Bool.and_false]
          · rw [decide_eq_false w, Bool.false_and]
      rw [show 40 = m_nd J + (40 - m_nd J) by omega, m_ex_skip (p := d_sh Q O (some (cP (N 23 j) up (p_line up ix iy) (p_start up ix iy) iw)))]
      · exact m_ex_cong (fun k hk => by rw [key k (by omega), decide_eq_true hk, Bool.true_and])
      · intro i h1 h2
        rw [key i (by omega), decide_eq_false (by omega), Bool.false_and]
    have eW : m_ex (w_sh Q O (some (cP (N 23 j) up (p_line up ix iy) (p_start up ix iy) iw))) 40 = m_ex (m_cbW N j ix iy up iw) (m_nw J) := by
      have key : ∀ d, d < 40 → w_sh Q O (some (cP (N 23 j) up (p_line up ix iy) (p_start up ix iy) iw)) d = (decide (d < m_nw J) && m_cbW N j ix iy up iw d) := fun d hd => by
        unfold w_sh m_cbW
        rcases h.2.2.2.1 d hd with ⟨a, p, b2, h0, h1, -, -, -, h4, h5⟩ | ⟨h0, h1⟩
        · obtain ⟨-, g1, g2, g3, -⟩ := hmi.2.2.2.1 d h0.1
          rw [show Q 4 d = some a from h1, decide_eq_true h0.1, Bool.true_and, decide_eq_true h0.2, Bool.true_and]
          dsimp only
          rw [show O a = some (cW b2 p) from h4]
          have e2 : fR (some (cW b2 p)) 1 = some p := rfl
          rw [e2]
          unfold fO
          dsimp only
          rw [show O p = some (xwp N d) from h5, sh_iff hw hp ⟨g1, g2⟩ g3]
          unfold m_shw xwp
          simp only [fI_P]
          rw [p_sh_comm]
        · rw [show Q 4 d = none from h1]
          dsimp only
          by_cases w : d < m_nw J
          · have : N 37 d = -2 := Decidable.byContradiction fun z => h0 ⟨w, z⟩
            rw [decide_eq_false (not_not_intro this), Bool.false_and, Bool.and_false]
          · rw [decide_eq_false w, Bool.false_and]
      rw [show 40 = m_nw J + (40 - m_nw J) by omega, m_ex_skip (p := w_sh Q O (some (cP (N 23 j) up (p_line up ix iy) (p_start up ix iy) iw)))]
      · exact m_ex_cong (fun k hk => by rw [key k (by omega), decide_eq_true hk, Bool.true_and])
      · intro i h1 h2
        rw [key i (by omega), decide_eq_false (by omega), Bool.false_and]
    rw [eD, eW]
    congr 1
    rcases ho with ⟨rfl, rfl⟩ | ⟨k, c, hk, rfl, hc, rfl, h23⟩
    · rw [if_pos rfl]
      dsimp only
      congr 1
      have key : ∀ r, r < 20 → r_tos Q O (some (cP (N 23 j) up (p_line up ix iy) (p_start up ix iy) iw)) b r = (decide (r < m_nr J) && m_cbR N j ix iy up iw r) := fun r hr => by
        unfold r_tos m_cbR
        rcases h.2.1 r hr with ⟨a, h0, h1, -, h4⟩ | ⟨h0, h1⟩
        · rw [show Q 2 r = some a from h1, decide_eq_true h0.1, Bool.true_and]
          dsimp only
          rw [show O a = some (xrm N r) from h4, tos_e, to_iff (GR.of hmi h0.1) hw hp]
          by_cases z : a = b
          · have : r = j := h.2.1.inj hr hj20 (by rw [← z]; exact h1) hb
            rw [decide_eq_false (not_not_intro z), decide_eq_false (not_not_intro this)]
          · have : ¬ r = j := fun w => z (by
              rw [w] at h1
              exact Option.some.inj (h1.symm.trans hb))
            rw [decide_eq_true z, decide_eq_true this]
        · rw [show Q 2 r = none from h1]
          dsimp only
          by_cases w : r < m_nr J
          · have : N 23 r = -2 := Decidable.byContradiction fun z => h0 ⟨w, z⟩
            have n2 : ¬ N 23 r = N 23 j := fun z => hj.2 (by rw [← z]; exact this)
            rw [decide_eq_false n2, Bool.false_and, Bool.and_false, Bool.and_false]
          · rw [decide_eq_false w, Bool.false_and]
      rw [show 20 = m_nr J + (20 - m_nr J) by omega, m_ex_skip (p := r_tos Q O (some (cP (N 23 j) up (p_line up ix iy) (p_start up ix iy) iw)) b)]
      · exact m_ex_cong (fun k hk => by rw [key k (by omega), decide_eq_true hk, Bool.true_and])
      · intro i h1 h2
        rw [key i (by omega), decide_eq_false (by omega), Bool.false_and]
    · have k20 := hk.lt hmi
      have hOc : O c = some (xrm N k) := (h.2.1.back k20 hc).2.2
      rw [if_neg (nI_ne1 (by omega)), n_cl (by omega)]
      dsimp only
      rw [hOc, ons_e, h23, decide_eq_true (rfl : N 23 j = N 23 j), Bool.true_and, on_iff (GR.of hmi hk.1) hw]
theorem XR.grow (h : XR E sz (J1, N1, Q, O, U) J N fl) {O2 : zk_Hp} {U2 : zk_U} {sz2 : Nat} (hO : ∀ q, q < sz → O2 q = O q) (hsz : sz ≤ sz2) : XR E sz2 (J1, N1, Q, O2, U2) J N fl := by
  have ok : ∀ a, OKA E sz a → OKA E sz2 a ∧ O2 a = O a := fun a w => ⟨⟨w.1, Nat.lt_of_lt_of_le w.2 hsz⟩, hO a w.2⟩
  obtain ⟨h1, h2, h3, h4, h5, h6⟩ := h
  refine ⟨h1, fun r hr => ?_, fun d hd => ?_, fun k hk => ?_, fun s hs => ?_, h6⟩
  · rcases h2 r hr with ⟨a, a0, a1, a2, a3⟩ | w
    · exact Or.inl ⟨a, a0, a1, (ok a a2).1, (ok a a2).2.trans a3⟩
    · exact Or.inr w
  · rcases h3 d hd with ⟨a, p, a0, a1, a2, a3, a4, a5⟩ | w
    · exact Or.inl ⟨a, p, a0, a1, (ok a a2).1, (ok p a3).1, (ok a a2).2.trans a4, (ok p a3).2.trans a5⟩
    · exact Or.inr w
  · rcases h4 k hk with ⟨a, p, b, a0, a1, a2, a3, a4, a5, a6⟩ | w
    · exact Or.inl ⟨a, p, b, a0, a1, (ok a a2).1, (ok p a3).1, a4, (ok a a2).2.trans a5, (ok p a3).2.trans a6⟩
    · exact Or.inr w
  · rcases h5 s hs with ⟨a, a0, a1, a2, a3⟩ | w
    · exact Or.inl ⟨a, a0, a1, (ok a a2).1, (ok a a2).2.trans a3⟩
    · exact Or.inr w
end XRS


