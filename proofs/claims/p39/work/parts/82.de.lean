/-! the class: removeRoom -/
theorem rmf_tt {p : Nat → Bool} {n d : Nat} (a : Nat → Int32) (h1 : d < n) (h2 : p d = true) : rmf p n a d = -2 := by unfold rmf; rw [if_pos ⟨h1, h2⟩]
theorem rmf_ff {p : Nat → Bool} {n d : Nat} (a : Nat → Int32) (h : (decide (d < n) && p d) = false) : rmf p n a d = a d := by
  unfold rmf
  rw [if_neg]
  rintro ⟨h1, h2⟩
  rw [decide_eq_true h1, h2] at h
  cases h
theorem rmO_tt {p : Nat → Bool} {n d : Nat} (a : Nat → Option Nat) (h1 : d < n) (h2 : p d = true) : rmO p n a d = none := by unfold rmO; rw [if_pos ⟨h1, h2⟩]
theorem rmO_ff {p : Nat → Bool} {n d : Nat} (a : Nat → Option Nat) (h2 : p d = false) : rmO p n a d = a d := by unfold rmO; rw [if_neg (fun w => by rw [h2] at w; cases w.2)]
section XRS
variable {E : zk_E} {sz : Nat} {J N J1 N1 : Nat → Nat → Int32} {Q : Nat → Nat → Option Nat} {O : zk_Hp} {U : zk_U} {fl : Nat → Int32}
theorem XT.tok (h : XT E sz Q O J N) : TOK E Q O := fun s hs a hq => by
  obtain ⟨-, h1, h2⟩ := h.back hs hq
  exact ⟨h1.1, _, _, _, _, _, _, _, _, h2⟩
theorem XR.o3 (h : XR E sz (J1, N1, Q, O, U) J N fl) (hmi : MI J N) {j b d : Nat} (hj : MR J N j) (hb : Q 2 j = some b) (hd : d < 40) : o_of (Q 3) O b d = (decide (d < m_nd J) && q_30 N (nI j) d) := by
  unfold o_of q_30
  rcases h.2.2.1 d hd with ⟨a, p, h0, h1, -, -, h4, -⟩ | ⟨h0, h1⟩
  · have hX : MX J N d := Or.inl ⟨hd, h0⟩
    obtain ⟨r, r1, r2, r3⟩ := ends_e hmi hX
    have e1 : ef N d = N 30 d := by unfold ef; rw [if_pos hd]
    have e2 : et N d = N 31 d := by unfold et; rw [if_pos hd]
    rw [e1] at r2
    rw [e2] at r3
    have q1 := h.2.1.rqe hmi (x := N 30 d) (Or.inr ⟨r, r1, r2⟩) hj hb
    have q2 := h.2.1.rqe hmi (x := N 31 d) (r3.imp id (fun ⟨q, a1, a2, a3⟩ => ⟨q, a1, a3⟩)) hj hb
    rw [show Q 3 d = some a from h1, decide_eq_true h0.1, Bool.true_and, decide_eq_true h0.2, Bool.true_and]
    dsimp only
    rw [show O a = _ from h4]
    unfold x_of xdr
    simp only [fR_X]
    simp only [show (rq Q (N 30 d) = some b) = (N 30 d = nI j) from q1, show (rq Q (N 31 d) = some b) = (N 31 d = nI j) from q2]
  · rw [show Q 3 d = none from h1]
    dsimp only
    by_cases w : d < m_nd J
    · have : N 30 d = -2 := Decidable.byContradiction fun z => h0 ⟨w, z⟩
      rw [decide_eq_false (not_not_intro this), Bool.false_and, Bool.and_false]
    · rw [decide_eq_false w, Bool.false_and]
theorem XR.o5 (h : XR E sz (J1, N1, Q, O, U) J N fl) (hmi : MI J N) {j b d : Nat} (hj : MR J N j) (hb : Q 2 j = some b) (hd : d < 10) : o_of (Q 5) O b d = (decide (d < m_ns J) && q_42 N (nI j) d) := by
  unfold o_of q_42
  rcases h.2.2.2.2.1 d hd with ⟨a, h0, h1, -, h4⟩ | ⟨h0, h1⟩
  · rcases (hmi.2.2.2.2.1 d h0.1).1 with w | ⟨r, r1, r2, q, qq, -, q3⟩
    · exact absurd w h0.2
    have q1 := h.2.1.rqe hmi (x := N 42 d) (Or.inr ⟨r, r1, r2⟩) hj hb
    have q2 := h.2.1.rqe hmi (x := N 43 d) (Or.inr ⟨q, qq, q3⟩) hj hb
    rw [show Q 5 d = some a from h1, decide_eq_true h0.1, Bool.true_and, decide_eq_true h0.2, Bool.true_and]
    dsimp only
    rw [show O a = _ from h4]
    unfold x_of xst
    simp only [fR_X]
    simp only [show (rq Q (N 42 d) = some b) = (N 42 d = nI j) from q1, show (rq Q (N 43 d) = some b) = (N 43 d = nI j) from q2]
  · rw [show Q 5 d = none from h1]
    dsimp only
    by_cases w : d < m_ns J
    · have : N 42 d = -2 := Decidable.byContradiction fun z => h0 ⟨w, z⟩
      rw [decide_eq_false (not_not_intro this), Bool.false_and, Bool.and_false]
    · rw [decide_eq_false w, Bool.false_and]
theorem XR.o4 (h : XR E sz (J1, N1, Q, O, U) J N fl) (hmi : MI J N) {j b d : Nat} (hj : MR J N j) (hb : Q 2 j = some b) (hd : d < 40) : o_in (Q 4) O b d = (decide (d < m_nw J) && q_37 N (nI j) d) := by
  have hj20 := hj.lt hmi
  unfold o_in q_37
  rcases h.2.2.2.1 d hd with ⟨a, p, b2, h0, h1, -, -, h4, h5, -⟩ | ⟨h0, h1⟩
  · rcases (hmi.2.2.2.1 d h0.1).1 with w | ⟨r, r1, r2⟩
    · exact absurd w h0.2
    have r20 := r1.lt hmi
    rw [show Q 4 d = some a from h1, decide_eq_true h0.1, Bool.true_and]
    dsimp only
    rw [show O a = _ from h5]
    have e1 : fR (some (cW b2 p)) 0 = some b2 := rfl
    rw [e1, r2]
    rw [r2, n_cl (by omega)] at h4
    have h4 : Q 2 r = some b2 := h4
    by_cases w : r = j
    · subst w
      rw [hb] at h4
      rw [h4.symm, decide_eq_true rfl, decide_eq_true rfl]
    · rw [decide_eq_false (fun z => w (h.2.1.inj r20 hj20 h4 (hb.trans z.symm))), decide_eq_false (by rw [n_inj (by omega) (by omega)]; exact w)]
  · rw [show Q 4 d = none from h1]
    dsimp only
    by_cases w : d < m_nw J
    · have : N 37 d = -2 := Decidable.byContradiction fun z => h0 ⟨w, z⟩
      rw [this, decide_eq_false (show ¬ (-2 : Int32) = nI j from fun z => nI_ne2 (r := j) (by omega) z.symm), Bool.and_false]
    · rw [decide_eq_false w, Bool.false_and]
theorem XR.rm (h : XR E sz (J1, N1, Q, O, U) J N fl) (hmi : MI J N) {j b : Nat} (hj : MR J N j) (hb : Q 2 j = some b) {J2 : Nat → Nat → Int32} (h1 : J2 1 = J1 1) : XR E sz (J2, N1, q_rm (zk_un Q 2 (va_up (Q 2) j none)) O b, O, U) J (uN_rm J N j) fl := by
  have o3 := fun d => h.o3 (d := d) hmi hj hb
  have o4 := fun d => h.o4 (d := d) hmi hj hb
  have o5 := fun d => h.o5 (d := d) hmi hj hb
  have hj20 := hj.lt hmi
  obtain ⟨⟨a1, a2, a3, a4, a5⟩, hB, hC, hD, hT, hG⟩ := h
  have hB : XB E sz Q O J N := hB
  have hC : XC E sz Q O J N fl := hC
  have hD : XD E sz Q O J N := hD
  have hT : XT E sz Q O J N := hT
  generalize eQ : q_rm (zk_un Q 2 (va_up (Q 2) j none)) O b = Q2
  have q2 : ∀ r, Q2 2 r = va_up (Q 2) j none r := fun r => by rw [← eQ]; rfl
  have q3 : ∀ d, Q2 3 d = rmO (o_of (Q 3) O b) 40 (Q 3) d := fun r => by rw [← eQ]; rfl
  have q4 : ∀ d, Q2 4 d = rmO (o_in (Q 4) O b) 40 (Q 4) d := fun r => by rw [← eQ]; rfl
  have q5 : ∀ d, Q2 5 d = rmO (o_of (Q 5) O b) 10 (Q 5) d := fun r => by rw [← eQ]; rfl
  generalize eN : uN_rm J N j = N2
  have n23 : ∀ r, N2 23 r = upd (N 23) j (-2) r := fun r => by rw [← eN]; rfl
  have n30 : ∀ r, N2 30 r = rmf (q_30 N (nI j)) (m_nd J) (N 30) r := fun r => by rw [← eN]; rfl
  have n37 : ∀ r, N2 37 r = rmf (q_37 N (nI j)) (m_nw J) (N 37) r := fun r => by rw [← eN]; rfl
  have n42 : ∀ r, N2 42 r = rmf (q_42 N (nI j)) (m_ns J) (N 42) r := fun r => by rw [← eN]; rfl
  have nn : ∀ o, o ≠ 23 → o ≠ 30 → o ≠ 37 → o ≠ 42 → N2 o = N o := fun o w1 w2 w3 w4 => by rw [← eN]; unfold uN_rm zk_un; rw [if_neg w1, if_neg w4, if_neg w3, if_neg w2]
  clear eQ eN
  have rqk : ∀ x, (x = -1 ∨ ∃ k, MR J N k ∧ x = nI k) → ¬ x = nI j → rq Q2 x = rq Q x := fun x hx hne => by
    unfold rq
    rcases hx with rfl | ⟨k, hk, rfl⟩
    · rw [if_pos rfl, if_pos rfl]
    · have k20 := hk.lt hmi
      rw [if_neg (nI_ne1 (by omega)), if_neg (nI_ne1 (by omega)), n_cl (by omega), q2, vaup_ne _ _ (fun z => hne (by rw [z]))]
  have n23k : ∀ x, (∃ k, MR J N k ∧ x = nI k) → ¬ x = nI j → N2 23 x.toNatClampNeg = N 23 x.toNatClampNeg := fun x hx hne => by
    obtain ⟨k, hk, rfl⟩ := hx
    have k20 := hk.lt hmi
    rw [n_cl (by omega), n23, upd_ne _ _ (fun z => hne (by rw [z]))]
  refine ⟨⟨?_, ?_, ?_, ?_, ?_⟩, ?_, ?_, ?_, ?_, ?_⟩
  · rw [← a1]; show J2 1 5 = J1 1 5; rw [h1]
  · rw [← a2]; show J2 1 6 = J1 1 6; rw [h1]
  · rw [← a3]; show J2 1 7 = J1 1 7; rw [h1]
  · rw [← a4]; show J2 1 8 = J1 1 8; rw [h1]
  · intro i hi; rw [nn 46 (by decide) (by decide) (by decide) (by decide)]; exact a5 i hi
  · intro r hr
    show (∃ a, MR J N2 r ∧ Q2 2 r = some a ∧ OKA E sz a ∧ O a = some (xrm N2 r)) ∨ (¬ MR J N2 r ∧ Q2 2 r = none)
    rw [q2]
    by_cases w : r = j
    · subst w
      refine Or.inr ⟨fun z => z.2 (by rw [n23, upd_self]), vaup_self _ _ _⟩
    · rw [vaup_ne _ _ w]
      have e23 : N2 23 r = N 23 r := by rw [n23, upd_ne _ _ w]
      have em : MR J N2 r = MR J N r := by unfold MR; rw [e23]
      rw [em]
      rcases hB r hr with ⟨a, b1, b2, b3, b4⟩ | ⟨b1, b2⟩
      · refine Or.inl ⟨a, b1, b2, b3, b4.trans ?_⟩
        unfold xrm
        rw [e23, nn 24 (by decide) (by decide) (by decide) (by decide), nn 25 (by decide) (by decide) (by decide) (by decide), nn 26 (by decide) (by decide) (by decide) (by decide), nn 27 (by decide) (by decide) (by decide) (by decide), nn 28 (by decide) (by decide) (by decide) (by decide), nn 29 (by decide) (by decide) (by decide) (by decide)]
      · exact Or.inr ⟨b1, b2⟩
  · intro d hd
    show (∃ a p, MD J N2 d ∧ Q2 3 d = some a ∧ OKA E sz a ∧ OKA E sz p ∧ O a = some (xdr N2 Q2 fl d p) ∧ O p = some (xdp N2 d)) ∨ (¬ MD J N2 d ∧ Q2 3 d = none)
    have ho := o3 d hd
    rw [q3]
    cases z : o_of (Q 3) O b d with
    | true =>
      rw [z] at ho
      have z2 := Bool.and_eq_true_iff.mp ho.symm
      exact Or.inr ⟨fun w => w.2 (by rw [n30, rmf_tt _ (of_decide_eq_true z2.1) z2.2]), rmO_tt _ hd z⟩
    | false =>
      rw [z] at ho
      have e30 : N2 30 d = N 30 d := by rw [n30, rmf_ff _ ho.symm]
      have em : MD J N2 d = MD J N d := by unfold MD; rw [e30]
      rw [rmO_ff _ z, em]
      rcases hC d hd with ⟨a, p, b1, b2, b3, b4, b5, b6⟩ | ⟨b1, b2⟩
      · have hX : MX J N d := Or.inl ⟨hd, b1⟩
        obtain ⟨r, r1, r2, r3⟩ := ends_e hmi hX
        have e1 : ef N d = N 30 d := by unfold ef; rw [if_pos hd]
        have e2 : et N d = N 31 d := by unfold et; rw [if_pos hd]
        rw [e1] at r2
        rw [e2] at r3
        rw [decide_eq_true b1.1, Bool.true_and] at ho
        unfold q_30 at ho
        rw [decide_eq_true b1.2, Bool.true_and] at ho
        have ho2 := Bool.or_eq_false_iff.mp ho.symm
        have x30 := of_decide_eq_false ho2.1
        have x31 := of_decide_eq_false ho2.2
        refine Or.inl ⟨a, p, b1, b2, b3, b4, b5.trans ?_, b6.trans ?_⟩
        · unfold xdr m_px m_py
          rw [e30, nn 31 (by decide) (by decide) (by decide) (by decide), nn 32 (by decide) (by decide) (by decide) (by decide), nn 33 (by decide) (by decide) (by decide) (by decide), nn 34 (by decide) (by decide) (by decide) (by decide), nn 35 (by decide) (by decide) (by decide) (by decide), nn 36 (by decide) (by decide) (by decide) (by decide), nn 44 (by decide) (by decide) (by decide) (by decide), nn 45 (by decide) (by decide) (by decide) (by decide), rqk _ (Or.inr ⟨r, r1, r2⟩) x30, rqk _ (r3.imp id (fun ⟨q, a1, a2, a3⟩ => ⟨q, a1, a3⟩)) x31]
        · unfold xdp
          rw [e30, n23k _ ⟨r, r1, r2⟩ x30, nn 32 (by decide) (by decide) (by decide) (by decide), nn 33 (by decide) (by decide) (by decide) (by decide), nn 34 (by decide) (by decide) (by decide) (by decide), nn 35 (by decide) (by decide) (by decide) (by decide)]
      · exact Or.inr ⟨b1, b2⟩
  · intro d hd
    show (∃ a p c, MW J N2 d ∧ Q2 4 d = some a ∧ OKA E sz a ∧ OKA E sz p ∧ Q2 2 (N2 37 d).toNatClampNeg = some c ∧ O a = some (cW c p) ∧ O p = some (xwp N2 d)) ∨ (¬ MW J N2 d ∧ Q2 4 d = none)
    have ho := o4 d hd
    rw [q4]
    cases z : o_in (Q 4) O b d with
    | true =>
      rw [z] at ho
      have z2 := Bool.and_eq_true_iff.mp ho.symm
      exact Or.inr ⟨fun w => w.2 (by rw [n37, rmf_tt _ (of_decide_eq_true z2.1) z2.2]), rmO_tt _ hd z⟩
    | false =>
      rw [z] at ho
      have e37 : N2 37 d = N 37 d := by rw [n37, rmf_ff _ ho.symm]
      have em : MW J N2 d = MW J N d := by unfold MW; rw [e37]
      rw [rmO_ff _ z, em]
      rcases hD d hd with ⟨a, p, c, b1, b2, b3, b4, b5, b6, b7⟩ | ⟨b1, b2⟩
      · rcases (hmi.2.2.2.1 d b1.1).1 with w | ⟨r, r1, r2⟩
        · exact absurd w b1.2
        rw [decide_eq_true b1.1, Bool.true_and] at ho
        unfold q_37 at ho
        have x37 := of_decide_eq_false ho.symm
        have r20 := r1.lt hmi
        have hne : ¬ r = j := fun w => x37 (by rw [r2, w])
        refine Or.inl ⟨a, p, c, b1, b2, b3, b4, ?_, b6, b7.trans ?_⟩
        · have b5 : Q 2 (N 37 d).toNatClampNeg = some c := b5
          rw [e37, q2, r2, n_cl (by omega), vaup_ne _ _ hne]
          rw [r2, n_cl (by omega)] at b5
          exact b5
        · unfold xwp
          rw [e37, n23k _ ⟨r, r1, r2⟩ x37, nn 38 (by decide) (by decide) (by decide) (by decide), nn 39 (by decide) (by decide) (by decide) (by decide), nn 40 (by decide) (by decide) (by decide) (by decide), nn 41 (by decide) (by decide) (by decide) (by decide)]
      · exact Or.inr ⟨b1, b2⟩
  · intro d hd
    show (∃ a, MT J N2 d ∧ Q2 5 d = some a ∧ OKA E sz a ∧ O a = some (xst N2 Q2 d)) ∨ (¬ MT J N2 d ∧ Q2 5 d = none)
    have ho := o5 d hd
    rw [q5]
    cases z : o_of (Q 5) O b d with
    | true =>
      rw [z] at ho
      have z2 := Bool.and_eq_true_iff.mp ho.symm
      exact Or.inr ⟨fun w => w.2 (by rw [n42, rmf_tt _ (of_decide_eq_true z2.1) z2.2]), rmO_tt _ hd z⟩
    | false =>
      rw [z] at ho
      have e42 : N2 42 d = N 42 d := by rw [n42, rmf_ff _ ho.symm]
      have em : MT J N2 d = MT J N d := by unfold MT; rw [e42]
      rw [rmO_ff _ z, em]
      rcases hT d hd with ⟨a, b1, b2, b3, b4⟩ | ⟨b1, b2⟩
      · rcases (hmi.2.2.2.2.1 d b1.1).1 with w | ⟨r, r1, r2, q, qq, -, q3⟩
        · exact absurd w b1.2
        rw [decide_eq_true b1.1, Bool.true_and] at ho
        unfold q_42 at ho
        rw [decide_eq_true b1.2, Bool.true_and] at ho
        have ho2 := Bool.or_eq_false_iff.mp ho.symm
        have x42 := of_decide_eq_false ho2.1
        have x43 := of_decide_eq_false ho2.2
        refine Or.inl ⟨a, b1, b2, b3, b4.trans ?_⟩
        unfold xst
        rw [e42, nn 43 (by decide) (by decide) (by decide) (by decide), nn 44 (by decide) (by decide) (by decide) (by decide), nn 45 (by decide) (by decide) (by decide) (by decide), rqk _ (Or.inr ⟨r, r1, r2⟩) x42, rqk _ (Or.inr ⟨q, qq, q3⟩) x43]
      · exact Or.inr ⟨b1, b2⟩
  · intro d d2 a hd hd2 e1 e2
    have e1 : Q2 3 d = some a := e1
    have e2 : Q2 3 d2 = some a := e2
    rw [q3] at e1 e2
    unfold rmO at e1 e2
    split at e1
    · cases e1
    · split at e2
      · cases e2
      · exact hG d d2 a hd hd2 e1 e2
theorem cntB_o {p q : Nat → Bool} {n m : Nat} (hn : n ≤ m) (h : ∀ i, i < m → p i = (decide (i < n) && q i)) : cntB p m = cntB q n := by
  rw [show m = n + (m - n) by omega, cntB_skip (p := p)]
  · exact cntB_cong (fun k hk => by rw [h k (by omega), decide_eq_true hk, Bool.true_and])
  · intro i h1 h2
    rw [h i (by omega), decide_eq_false (by omega), Bool.false_and]
end XRS

def sp_X10_removeRoom (E : zk_E) : zk_Sp zk_S := fun av σ sz P PX => match av with
  | [.ref a, .int r] => a = zk_ad E 0 ∧ ∃ J N, IC E sz σ J N ∧ RD J N r (fun j => ZM E σ sz J (uN_rm J N j) (some (.int (nI (a_rm J N j)))) P) (ZY σ sz "java/lang/IndexOutOfBoundsException" PX)
  | _ => False
theorem spe_X10_removeRoom (E : zk_E) (a : Nat) (r : Int32) (σ : zk_S) (sz : Nat) (P : zk_P zk_S) (PX : zk_X zk_S) : sp_X10_removeRoom E [.ref a, .int r] σ sz P PX = (a = zk_ad E 0 ∧ ∃ J N, IC E sz σ J N ∧ RD J N r (fun j => ZM E σ sz J (uN_rm J N j) (some (.int (nI (a_rm J N j)))) P) (ZY σ sz "java/lang/IndexOutOfBoundsException" PX)) := propext Iff.rfl
def C_X10_removeRoom (E : zk_E) : zk_Cl zk_S := zk_lka [(2, 2, 1, 6, zk_rv (zk_VT E) (fun ci => Nat.beq ci 9) (sp_X10_roomThere E)), (29, 2, 0, 0, zk_rv (zk_VT E) (fun ci => Nat.beq ci 4) (sp_X5_dropAllOf E))]
theorem r_X10_removeRoom (E : zk_E) (P : zk_P zk_S) (PX : zk_X zk_S) (K : Nat → zk_L → List Value → zk_W zk_S → Prop) : (∀ (n : Nat) (l1 l2 : Option Value) (y0 : Value) (r : List Value) (σ : zk_S) (sz k c : Nat), zk_run E (zk_VT E) M_X10_removeRoom (C_X10_removeRoom E) P PX K (n + 1) 0 [some y0, l1, l2] r (σ, sz, k, c) = (zk_isr y0 ∧ zk_run E (zk_VT E) M_X10_removeRoom (C_X10_removeRoom E) P PX K n 1 [some y0, l1, l2] (y0 :: r) (σ, sz, k, c))) ∧
  (∀ (n : Nat) (l0 l2 : Option Value) (y1 : Int32) (r : List Value) (σ : zk_S) (sz k c : Nat), zk_run E (zk_VT E) M_X10_removeRoom (C_X10_removeRoom E) P PX K (n + 1) 1 [l0, some (.int y1), l2] r (σ, sz, k, c) = zk_run E (zk_VT E) M_X10_removeRoom (C_X10_removeRoom E) P PX K n 2 [l0, some (.int y1), l2] (.int y1 :: r) (σ, sz, k, c)) ∧
  (∀ (n : Nat) (l0 l1 l2 : Option Value) (v0 : Value) (v1 : Value)  (σ : zk_S) (sz k c : Nat), zk_run E (zk_VT E) M_X10_removeRoom (C_X10_removeRoom E) P PX K (n + 1) 2 [l0, l1, l2] [v0, v1] (σ, sz, k, c) = (k + 1 ≤ 1 ∧ c + 6 ≤ 6 ∧ (zk_rv (zk_VT E) (fun ci => Nat.beq ci 9) (sp_X10_roomThere E)) [v1, v0] σ sz (fun v s2 z2 => zk_run E (zk_VT E) M_X10_removeRoom (C_X10_removeRoom E) P PX K n 5 [l0, l1, l2] (zk_psh v []) (s2, z2, k + 1, c + 6)) (fun X s2 z2 => PX X s2 z2))) ∧
  (∀ (n : Nat) (l0 l1 l2 : Option Value) (x : Value) (r : List Value) (σ : zk_S) (sz k c : Nat), zk_run E (zk_VT E) M_X10_removeRoom (C_X10_removeRoom E) P PX K (n + 1) 5 [l0, l1, l2] (x :: r) (σ, sz, k, c) = (zk_isr x ∧ zk_run E (zk_VT E) M_X10_removeRoom (C_X10_removeRoom E) P PX K n 6 [l0, zk_kl l1, some (x)] r (σ, sz, k, c))) ∧
  (∀ (n : Nat) (l1 l2 : Option Value) (y0 : Value) (r : List Value) (σ : zk_S) (sz k c : Nat), zk_run E (zk_VT E) M_X10_removeRoom (C_X10_removeRoom E) P PX K (n + 1) 6 [some y0, l1, l2] r (σ, sz, k, c) = (zk_isr y0 ∧ zk_run E (zk_VT E) M_X10_removeRoom (C_X10_removeRoom E) P PX K n 7 [some y0, l1, l2] (y0 :: r) (σ, sz, k, c))) ∧
  (∀ (n : Nat) (l0 l1 l2 : Option Value) (a : Nat) (r : List Value) (σ : zk_S) (sz k c : Nat), zk_run E (zk_VT E) M_X10_removeRoom (C_X10_removeRoom E) P PX K (n + 1) 7 [l0, l1, l2] (.ref a :: r) (σ, sz, k, c) = zk_fld (zk_view E σ a) [9] 0 (fun v => zk_run E (zk_VT E) M_X10_removeRoom (C_X10_removeRoom E) P PX K n 10 [l0, l1, l2] (v :: r) (σ, sz, k, c))) ∧
  (∀ (n : Nat) (l0 l1 l2 : Option Value) (a : Nat) (r : List Value) (σ : zk_S) (sz k c : Nat), zk_run E (zk_VT E) M_X10_removeRoom (C_X10_removeRoom E) P PX K (n + 1) 10 [l0, l1, l2] (.ref a :: r) (σ, sz, k, c) = zk_fld (zk_view E σ a) [4] 0 (fun v => zk_run E (zk_VT E) M_X10_removeRoom (C_X10_removeRoom E) P PX K n 13 [l0, l1, l2] (v :: r) (σ, sz, k, c))) ∧
  (∀ (n : Nat) (l0 l1 : Option Value) (y2 : Value) (r : List Value) (σ : zk_S) (sz k c : Nat), zk_run E (zk_VT E) M_X10_removeRoom (C_X10_removeRoom E) P PX K (n + 1) 13 [l0, l1, some y2] r (σ, sz, k, c) = (zk_isr y2 ∧ zk_run E (zk_VT E) M_X10_removeRoom (C_X10_removeRoom E) P PX K n 14 [l0, l1, some y2] (y2 :: r) (σ, sz, k, c))) ∧
  (∀ (n : Nat) (l0 l1 l2 : Option Value) (a : Nat) (r : List Value) (σ : zk_S) (sz k c : Nat), zk_run E (zk_VT E) M_X10_removeRoom (C_X10_removeRoom E) P PX K (n + 1) 14 [l0, l1, l2] (.ref a :: r) (σ, sz, k, c) = zk_fld (zk_view E σ a) [5] 0 (fun v => zk_run E (zk_VT E) M_X10_removeRoom (C_X10_removeRoom E) P PX K n 17 [l0, l1, l2] (v :: r) (σ, sz, k, c))) ∧
  (∀ (n : Nat) (l0 l1 l2 : Option Value)  (r : List Value) (σ : zk_S) (sz k c : Nat), zk_run E (zk_VT E) M_X10_removeRoom (C_X10_removeRoom E) P PX K (n + 1) 17 [l0, l1, l2] r (σ, sz, k, c) = zk_run E (zk_VT E) M_X10_removeRoom (C_X10_removeRoom E) P PX K n 18 [l0, l1, l2] (.null :: r) (σ, sz, k, c)) ∧
  (∀ (n : Nat) (l0 l1 l2 : Option Value) (a : Nat) (i : Int32) (r : List Value) (σ : zk_S) (sz k c : Nat), zk_run E (zk_VT E) M_X10_removeRoom (C_X10_removeRoom E) P PX K (n + 1) 18 [l0, l1, l2] (.null :: .int i :: .ref a :: r) (σ, sz, k, c) = zk_qsn (zk_view E σ a) i [zk_ar E 3, zk_ar E 4, zk_ar E 5, zk_ar E 6] (fun e => zk_wrok E σ a e ∧ zk_run E (zk_VT E) M_X10_removeRoom (C_X10_removeRoom E) P PX K n 19 [l0, l1, l2] r (zk_wr E σ a e, sz, k, c))) ∧
  (∀ (n : Nat) (l0 l1 l2 : Option Value) (a v : Nat) (i : Int32) (r : List Value) (σ : zk_S) (sz k c : Nat), zk_run E (zk_VT E) M_X10_removeRoom (C_X10_removeRoom E) P PX K (n + 1) 18 [l0, l1, l2] (.ref v :: .int i :: .ref a :: r) (σ, sz, k, c) = zk_qst E (zk_view E σ a) (zk_view E σ v) i v (fun e => zk_wrok E σ a e ∧ zk_run E (zk_VT E) M_X10_removeRoom (C_X10_removeRoom E) P PX K n 19 [l0, l1, l2] r (zk_wr E σ a e, sz, k, c))) ∧
  (∀ (n : Nat) (l1 l2 : Option Value) (y0 : Value) (r : List Value) (σ : zk_S) (sz k c : Nat), zk_run E (zk_VT E) M_X10_removeRoom (C_X10_removeRoom E) P PX K (n + 1) 19 [some y0, l1, l2] r (σ, sz, k, c) = (zk_isr y0 ∧ zk_run E (zk_VT E) M_X10_removeRoom (C_X10_removeRoom E) P PX K n 20 [some y0, l1, l2] (y0 :: r) (σ, sz, k, c))) ∧
  (∀ (n : Nat) (l0 l1 l2 : Option Value)  (r : List Value) (σ : zk_S) (sz k c : Nat), zk_run E (zk_VT E) M_X10_removeRoom (C_X10_removeRoom E) P PX K (n + 1) 20 [l0, l1, l2] r (σ, sz, k, c) = zk_run E (zk_VT E) M_X10_removeRoom (C_X10_removeRoom E) P PX K n 21 [l0, l1, l2] (.int (0) :: r) (σ, sz, k, c)) ∧
  (∀ (n : Nat) (l0 l1 l2 : Option Value) (a : Nat) (v : Value) (r : List Value) (σ : zk_S) (sz k c : Nat), zk_run E (zk_VT E) M_X10_removeRoom (C_X10_removeRoom E) P PX K (n + 1) 21 [l0, l1, l2] (v :: .ref a :: r) (σ, sz, k, c) = zk_put (zk_view E σ a) [9] 4 1 v (zk_pfok E σ a 4 v ∧ zk_run E (zk_VT E) M_X10_removeRoom (C_X10_removeRoom E) P PX K n 24 [l0, l1, l2] r (zk_pf E σ a 4 v, sz, k, c))) ∧
  (∀ (n : Nat) (l1 l2 : Option Value) (y0 : Value) (r : List Value) (σ : zk_S) (sz k c : Nat), zk_run E (zk_VT E) M_X10_removeRoom (C_X10_removeRoom E) P PX K (n + 1) 24 [some y0, l1, l2] r (σ, sz, k, c) = (zk_isr y0 ∧ zk_run E (zk_VT E) M_X10_removeRoom (C_X10_removeRoom E) P PX K n 25 [some y0, l1, l2] (y0 :: r) (σ, sz, k, c))) ∧
  (∀ (n : Nat) (l0 l1 l2 : Option Value) (a : Nat) (r : List Value) (σ : zk_S) (sz k c : Nat), zk_run E (zk_VT E) M_X10_removeRoom (C_X10_removeRoom E) P PX K (n + 1) 25 [l0, l1, l2] (.ref a :: r) (σ, sz, k, c) = zk_fld (zk_view E σ a) [9] 0 (fun v => zk_run E (zk_VT E) M_X10_removeRoom (C_X10_removeRoom E) P PX K n 28 [l0, l1, l2] (v :: r) (σ, sz, k, c))) ∧
  (∀ (n : Nat) (l0 l1 : Option Value) (y2 : Value) (r : List Value) (σ : zk_S) (sz k c : Nat), zk_run E (zk_VT E) M_X10_removeRoom (C_X10_removeRoom E) P PX K (n + 1) 28 [l0, l1, some y2] r (σ, sz, k, c) = (zk_isr y2 ∧ zk_run E (zk_VT E) M_X10_removeRoom (C_X10_removeRoom E) P PX K n 29 [l0, l1, some y2] (y2 :: r) (σ, sz, k, c))) ∧
  (∀ (n : Nat) (l0 l1 l2 : Option Value) (v0 : Value) (v1 : Value)  (σ : zk_S) (sz k c : Nat), zk_run E (zk_VT E) M_X10_removeRoom (C_X10_removeRoom E) P PX K (n + 1) 29 [l0, l1, l2] [v0, v1] (σ, sz, k, c) = (k + 0 ≤ 1 ∧ c + 0 ≤ 6 ∧ (zk_rv (zk_VT E) (fun ci => Nat.beq ci 4) (sp_X5_dropAllOf E)) [v1, v0] σ sz (fun v s2 z2 => zk_run E (zk_VT E) M_X10_removeRoom (C_X10_removeRoom E) P PX K n 32 [l0, l1, l2] (zk_psh v []) (s2, z2, k + 0, c + 0)) (fun X s2 z2 => PX X s2 z2))) ∧
  (∀ (n : Nat) (l0 l1 l2 : Option Value) (x : Int32)  (σ : zk_S) (sz k c : Nat), zk_run E (zk_VT E) M_X10_removeRoom (C_X10_removeRoom E) P PX K (n + 1) 32 [l0, l1, l2] [.int x] (σ, sz, k, c) = (zk_nok (some (.int)) x ∧ P (some (.int x)) σ sz ∧ k ≤ 1 ∧ c ≤ 6)) ∧
  (∀ (n : Nat) (l0 l1 l2 : Option Value) (r : List Value) (w : zk_W zk_S), zk_go E (zk_VT E) M_X10_removeRoom (C_X10_removeRoom E) P PX K n 0 [l0, l1, l2] r w = zk_run E (zk_VT E) M_X10_removeRoom (C_X10_removeRoom E) P PX K (n + 1) 0 [l0, l1, l2] r w) := ⟨by intros; rfl, by intros; rfl, by intros; rfl, by intros; rfl, by intros; rfl, by intros; rfl, by intros; rfl, by intros; rfl, by intros; rfl, by intros; rfl, by intros; rfl, by intros; rfl, by intros; rfl, by intros; rfl, by intros; rfl, by intros; rfl, by intros; rfl, by intros; rfl, by intros; rfl, by intros; rfl, by intros; rfl⟩
theorem vc_X10_removeRoom (E : zk_E) : zk_VC E (zk_VT E) M_X10_removeRoom (C_X10_removeRoom E) 3 (sp_X10_removeRoom E) := by
  intro av σ sz P PX h
  obtain ⟨J, N, Q, O, U⟩ := σ
  unfold sp_X10_removeRoom at h
  split at h
  case h_2 => exact h.elim
  rename_i a0 r
  obtain ⟨rfl, h⟩ := h
  refine ⟨Nat.le_of_ble_eq_true rfl, fun G hG => ?_⟩
  change G 0 [some (.ref (zk_ad E 0)), some (.int r), none] [] ((J, N, Q, O, U), sz, 0, 0)
  try dsimp only at h
  obtain ⟨J1, N1, ⟨hmi, hxr, hrk⟩, h⟩ := h
  rcases h with ⟨j, hj, rfl, h⟩ | ⟨hr, h⟩
  · obtain ⟨b, hb, hbo, hOb⟩ := hxr.2.1.room hmi hj
    have hb : Q 2 j = some b := hb
    have hOb : O b = some (xrm N1 j) := hOb
    have hb1 := hbo.1
    have hj20 := hj.lt hmi
    have in19 : m_isIn (nI j) 0 19 = true := n_isIn (by decide) hj20 (by decide)
    have hin : vp_in (nI j) 20 := n_in hj20 (by decide)
    have hcl : (nI j).toNatClampNeg = j := n_cl (by omega)
    have g0 : ∀ F : Value → Prop, zk_fld (O b) [5] 0 F = F (.int (nI j)) := fun F => by rw [hOb]; simp [zk_fld_o, xrm, cR, zk_nth]
    have hx2 := hxr.rm hmi hj hb (J2 := zk_uj J 0 4 0) rfl
    have h := h _ _ _ _ sz (Nat.le_refl _) rfl (uj_22 (by decide)) (fun _ _ => rfl) ⟨fun o ho => by unfold q_rm; rw [un_22 (by decide) o ho, un_22 (by decide) o ho, un_22 (by decide) o ho, un_22 (by decide) o ho], fun _ _ _ => rfl⟩ hx2
    have ec : a_rm J1 N1 j = cntB (o_of (Q 3) O b) 40 + cntB (o_in (Q 4) O b) 40 + cntB (o_of (Q 5) O b) 10 := by
      have d40 := hmi.1.2.1.2
      have w40 : m_nw J1 ≤ 40 := Nat.le_trans hmi.1.2.2.1.2 (by decide)
      have s10 := hmi.1.2.2.2.2
      unfold a_rm
      rw [cntB_o d40 (fun i hi => hxr.o3 hmi hj hb hi), cntB_o w40 (fun i hi => hxr.o4 hmi hj hb hi), cntB_o s10 (fun i hi => hxr.o5 hmi hj hb hi)]
    rw [ec] at h
    (refine hG 900 _ _ _ _ ?_; simp only [r_X10_removeRoom, zk_kl_none, zk_kl_int, zk_kl_ref, zk_kl_null, zk_kl_long, zk_kl_rf, zk_isr_ref, zk_isr_null, zk_isr_rf9, zk_c1_int, zk_c1_ref, zk_c1_null, zk_c1_rf, zk_psh_some, zk_psh_none, zk_nok_int, zk_nok_bool0, zk_nok_bool1, zk_nok_b, zk_fok_0, zk_fok_1, zk_fok_2, zk_fok_n, zk_fok_rf, zb_f, zb_p, zb_i, zb_a, zb_s, zk_nth_0, zk_nth_s, zk_fld_o, zk_put_o, zk_rv_eq, zk_ri_eq, zk_is_o, List.mem_cons, List.not_mem_nil, or_false, false_or, or_true, true_or, and_true, true_and, not_false_iff, not_true_eq_false, true_implies, false_implies, imp_self, implies_true, forall_const, zk_lit, zk_uj_ap, zk_un_ap, zk_un_un, zk_uj_uj, Nat.reduceEqDiff, eq_self, zk_bq, Bool.true_or, Bool.false_or, Nat.le_refl, Nat.zero_add, Nat.add_zero, Nat.reduceAdd, Nat.reduceLeDiff, Nat.le_zero_eq, and_self, and_false, false_and, ite_true, ite_false, Nat.zero_le, List.length_cons, List.length_nil, Option.some.injEq, forall_eq', reduceCtorEq, spe_X10_roomThere, in19, hcl, hin, hb, Bool.true_eq_false, zk_vd hb1, g0, spe_X5_dropAllOf])
    exact ⟨hxr.2.2.1.dok, hxr.2.2.2.1.wok hmi.1, hxr.2.2.2.2.1.tok, h⟩
  · rcases hxr.noroom hmi.1 hr with q | ⟨q, q2⟩
    · (refine hG 900 _ _ _ _ ?_; simp only [r_X10_removeRoom, zk_kl_none, zk_kl_int, zk_kl_ref, zk_kl_null, zk_kl_long, zk_kl_rf, zk_isr_ref, zk_isr_null, zk_isr_rf9, zk_c1_int, zk_c1_ref, zk_c1_null, zk_c1_rf, zk_psh_some, zk_psh_none, zk_nok_int, zk_nok_bool0, zk_nok_bool1, zk_nok_b, zk_fok_0, zk_fok_1, zk_fok_2, zk_fok_n, zk_fok_rf, zb_f, zb_p, zb_i, zb_a, zb_s, zk_nth_0, zk_nth_s, zk_fld_o, zk_put_o, zk_rv_eq, zk_ri_eq, zk_is_o, List.mem_cons, List.not_mem_nil, or_false, false_or, or_true, true_or, and_true, true_and, not_false_iff, not_true_eq_false, true_implies, false_implies, imp_self, implies_true, forall_const, zk_lit, zk_uj_ap, zk_un_ap, zk_un_un, zk_uj_uj, Nat.reduceEqDiff, eq_self, zk_bq, Bool.true_or, Bool.false_or, Nat.le_refl, Nat.zero_add, Nat.add_zero, Nat.reduceAdd, Nat.reduceLeDiff, Nat.le_zero_eq, and_self, and_false, false_and, ite_true, ite_false, Nat.zero_le, List.length_cons, List.length_nil, Option.some.injEq, forall_eq', reduceCtorEq, spe_X10_roomThere, q, Bool.false_eq_true])
      exact fun z2 hz => h O z2 hz (fun _ _ => rfl)
    · (refine hG 900 _ _ _ _ ?_; simp only [r_X10_removeRoom, zk_kl_none, zk_kl_int, zk_kl_ref, zk_kl_null, zk_kl_long, zk_kl_rf, zk_isr_ref, zk_isr_null, zk_isr_rf9, zk_c1_int, zk_c1_ref, zk_c1_null, zk_c1_rf, zk_psh_some, zk_psh_none, zk_nok_int, zk_nok_bool0, zk_nok_bool1, zk_nok_b, zk_fok_0, zk_fok_1, zk_fok_2, zk_fok_n, zk_fok_rf, zb_f, zb_p, zb_i, zb_a, zb_s, zk_nth_0, zk_nth_s, zk_fld_o, zk_put_o, zk_rv_eq, zk_ri_eq, zk_is_o, List.mem_cons, List.not_mem_nil, or_false, false_or, or_true, true_or, and_true, true_and, not_false_iff, not_true_eq_false, true_implies, false_implies, imp_self, implies_true, forall_const, zk_lit, zk_uj_ap, zk_un_ap, zk_un_un, zk_uj_uj, Nat.reduceEqDiff, eq_self, zk_bq, Bool.true_or, Bool.false_or, Nat.le_refl, Nat.zero_add, Nat.add_zero, Nat.reduceAdd, Nat.reduceLeDiff, Nat.le_zero_eq, and_self, and_false, false_and, ite_true, ite_false, Nat.zero_le, List.length_cons, List.length_nil, Option.some.injEq, forall_eq', reduceCtorEq, spe_X10_roomThere, q, q2])
      exact fun z2 hz => h O z2 hz (fun _ _ => rfl)
theorem ct_X10_removeRoom {l : Launch} (hl : l.stackTraces = false) (E : zk_E) : zk_C l E (zk_VT E) yX10_removeRoom cX10_removeRoom 3 (some (.int)) rm_X10_removeRoom (sp_X10_removeRoom E) := by
  refine zk_meth (M := M_X10_removeRoom) (C := C_X10_removeRoom E) hl (by decide +kernel) rfl (fun _ _ => rfl) (zk_VT_ok E) MO_X10_removeRoom TO_X10_removeRoom THo_X10_removeRoom ?_ (vc_X10_removeRoom E)
  exact fun p e s m args below meth c X pc n mc ms sp2 h => by
    have h2 := zk_lka_mem h
    simp only [List.mem_cons, List.not_mem_nil, or_false, Prod.mk.injEq] at h2
    rcases h2 with ⟨rfl, rfl, rfl, rfl, rfl⟩ | ⟨rfl, rfl, rfl, rfl, rfl⟩
    · exact zk_coV (idx := 76) X (ct_X10_roomThere hl E) (List.forall_mem_cons.mpr ⟨zk_wi 105 (by decide +kernel) rfl, List.forall_mem_cons.mpr ⟨zk_wi 107 (by decide +kernel) rfl, List.forall_mem_cons.mpr ⟨zk_wp 2 (by decide +kernel) rfl, List.forall_mem_cons.mpr ⟨zk_wi 2 (by decide +kernel) rfl, List.forall_mem_cons.mpr ⟨zk_wi 108 (by decide +kernel) rfl, fun _ h => absurd h List.not_mem_nil⟩⟩⟩⟩⟩) (fun ci h => by
      have h := Nat.eq_of_beq_eq_true h
      subst h
      exact ⟨_, _, rfl⟩) (by decide +kernel) ⟨by decide, by decide, by decide +kernel⟩ ⟨by decide, by decide⟩
    · exact zk_coV (idx := 83) X (ct_X5_dropAllOf hl E) (List.forall_mem_cons.mpr ⟨zk_wi 930 (by decide +kernel) rfl, List.forall_mem_cons.mpr ⟨zk_wi 931 (by decide +kernel) rfl, List.forall_mem_cons.mpr ⟨zk_wi 932 (by decide +kernel) rfl, List.forall_mem_cons.mpr ⟨zk_wi 3 (by decide +kernel) rfl, List.forall_mem_cons.mpr ⟨zk_wi 933 (by decide +kernel) rfl, fun _ h => absurd h List.not_mem_nil⟩⟩⟩⟩⟩) (fun ci h => by
      have h := Nat.eq_of_beq_eq_true h
      subst h
      exact ⟨_, _, rfl⟩) (by decide +kernel) ⟨by decide, by decide, by decide +kernel⟩ ⟨by decide, by decide⟩


