/-! the ghost plan, carried over -/
section XRS
variable {E : zk_E} {sz : Nat} {J N J1 N1 : Nat → Nat → Int32} {Q : Nat → Nat → Option Nat} {O : zk_Hp} {U : zk_U} {fl : Nat → Int32}
/-- the same counts, and the same rows below the number of rooms -/
def GH (J N J2 N2 : Nat → Nat → Int32) : Prop := (J2 22 1 = J 22 1 ∧ J2 22 9 = J 22 9 ∧ J2 22 17 = J 22 17 ∧ J2 22 23 = J 22 23) ∧ WE (m_nr J) N N2
theorem GH.nr (h : GH J N J1 N1) : m_nr J1 = m_nr J ∧ m_nd J1 = m_nd J ∧ m_nw J1 = m_nw J ∧ m_ns J1 = m_ns J := by
  obtain ⟨⟨h1, h2, h3, h4⟩, -⟩ := h
  refine ⟨?_, ?_, ?_, ?_⟩
  · show (J1 22 1).toNatClampNeg = (J 22 1).toNatClampNeg; rw [h1]
  · show (J1 22 9).toNatClampNeg = (J 22 9).toNatClampNeg; rw [h2]
  · show (J1 22 17).toNatClampNeg = (J 22 17).toNatClampNeg; rw [h3]
  · show (J1 22 23).toNatClampNeg = (J 22 23).toNatClampNeg; rw [h4]
theorem XR.gh {J2 N2 : Nat → Nat → Int32} (h : XR E sz (J1, N1, Q, O, U) J N fl) (hmi : MI J N) (hg : GH J N J2 N2) : XR E sz (J1, N1, Q, O, U) J2 N2 fl := by
  obtain ⟨m1, m2, m3, m4⟩ := hg.nr
  obtain ⟨⟨j1, j2, j3, j4⟩, w1, w2⟩ := hg
  have n30 := fun o (h1 : 30 ≤ o) (h2 : o ≤ 46) => w2 o h1 h2
  have n23k : ∀ z, (∃ k, MR J N k ∧ z = nI k) → N2 23 z.toNatClampNeg = N 23 z.toNatClampNeg := fun z hz => by
    obtain ⟨k, hk, rfl⟩ := hz
    have k20 := hk.lt hmi
    rw [n_cl (by omega)]
    exact w1 23 (by decide) (by decide) k hk.1
  obtain ⟨⟨a1, a2, a3, a4, a5⟩, hB, hC, hD, hT, hG⟩ := h
  refine ⟨⟨a1.trans j1.symm, a2.trans j2.symm, a3.trans j3.symm, a4.trans j4.symm, fun i hi => (a5 i hi).trans (by rw [n30 46 (by decide) (by decide)])⟩, ?_, ?_, ?_, ?_, hG⟩
  · intro r hr
    have em : MR J2 N2 r = MR J N r := by
      unfold MR
      rw [m1]
      apply propext
      constructor
      · rintro ⟨z1, z2⟩; exact ⟨z1, by rw [← w1 23 (by decide) (by decide) r z1]; exact z2⟩
      · rintro ⟨z1, z2⟩; exact ⟨z1, by rw [w1 23 (by decide) (by decide) r z1]; exact z2⟩
    rw [em]
    rcases hB r hr with ⟨a, b1, b2, b3, b4⟩ | w
    · refine Or.inl ⟨a, b1, b2, b3, b4.trans ?_⟩
      have e := fun o (z1 : 23 ≤ o) (z2 : o ≤ 29) => w1 o z1 z2 r b1.1
      unfold xrm
      rw [e 23 (by decide) (by decide), e 24 (by decide) (by decide), e 25 (by decide) (by decide), e 26 (by decide) (by decide), e 27 (by decide) (by decide), e 28 (by decide) (by decide), e 29 (by decide) (by decide)]
    · exact Or.inr w
  · intro d hd
    have em : MD J2 N2 d = MD J N d := by unfold MD; rw [m2, n30 30 (by decide) (by decide)]
    rw [em]
    rcases hC d hd with ⟨a, p, b1, b2, b3, b4, b5, b6⟩ | w
    · have hX : MX J N d := Or.inl ⟨hd, b1⟩
      obtain ⟨r, r1, r2, -⟩ := ends_e hmi hX
      have e1 : ef N d = N 30 d := by unfold ef; rw [if_pos hd]
      rw [e1] at r2
      refine Or.inl ⟨a, p, b1, b2, b3, b4, b5.trans ?_, b6.trans ?_⟩
      · unfold xdr m_px m_py
        rw [n30 30 (by decide) (by decide), n30 31 (by decide) (by decide), n30 32 (by decide) (by decide), n30 33 (by decide) (by decide), n30 34 (by decide) (by decide), n30 35 (by decide) (by decide), n30 36 (by decide) (by decide), n30 44 (by decide) (by decide), n30 45 (by decide) (by decide)]
      · unfold xdp
        rw [n30 30 (by decide) (by decide), n23k _ ⟨r, r1, r2⟩, n30 32 (by decide) (by decide), n30 33 (by decide) (by decide), n30 34 (by decide) (by decide), n30 35 (by decide) (by decide)]
    · exact Or.inr w
  · intro d hd
    have em : MW J2 N2 d = MW J N d := by unfold MW; rw [m3, n30 37 (by decide) (by decide)]
    rw [em]
    rcases hD d hd with ⟨a, p, c, b1, b2, b3, b4, b5, b6, b7⟩ | w
    · rcases (hmi.2.2.2.1 d b1.1).1 with w | ⟨r, r1, r2⟩
      · exact absurd w b1.2
      refine Or.inl ⟨a, p, c, b1, b2, b3, b4, by rw [n30 37 (by decide) (by decide)]; exact b5, b6, b7.trans ?_⟩
      unfold xwp
      rw [n30 37 (by decide) (by decide), n23k _ ⟨r, r1, r2⟩, n30 38 (by decide) (by decide), n30 39 (by decide) (by decide), n30 40 (by decide) (by decide), n30 41 (by decide) (by decide)]
    · exact Or.inr w
  · intro d hd
    have em : MT J2 N2 d = MT J N d := by unfold MT; rw [m4, n30 42 (by decide) (by decide)]
    rw [em]
    rcases hT d hd with ⟨a, b1, b2, b3, b4⟩ | w
    · refine Or.inl ⟨a, b1, b2, b3, b4.trans ?_⟩
      unfold xst
      rw [n30 42 (by decide) (by decide), n30 43 (by decide) (by decide), n30 44 (by decide) (by decide), n30 45 (by decide) (by decide)]
    · exact Or.inr w
theorem GH.wide0 (h : GH J N J1 N1) : fl0 N1 = fl0 N := by unfold fl0; rw [h.2.2 34 (by decide) (by decide)]
end XRS
theorem GH.mr {J N J2 N2 : Nat → Nat → Int32} (hg : GH J N J2 N2) : MR J2 N2 = MR J N := by
  obtain ⟨m1, -, -, -⟩ := hg.nr
  funext r
  unfold MR
  rw [m1]
  apply propext
  constructor
  · rintro ⟨z1, z2⟩; exact ⟨z1, by rw [← hg.2.1 23 (by decide) (by decide) r z1]; exact z2⟩
  · rintro ⟨z1, z2⟩; exact ⟨z1, by rw [hg.2.1 23 (by decide) (by decide) r z1]; exact z2⟩
theorem MI.gh {J N J2 N2 : Nat → Nat → Int32} (hm : MI J N) (hg : GH J N J2 N2) : MI J2 N2 := by
  obtain ⟨m1, m2, m3, m4⟩ := hg.nr
  have hmr := hg.mr
  obtain ⟨⟨j1, j2, j3, j4⟩, w1, w2⟩ := hg
  have n30 := fun o (h1 : 30 ≤ o) (h2 : o ≤ 46) => w2 o h1 h2
  obtain ⟨h1, h2, h3, h4, h5, h6, h7⟩ := hm
  refine ⟨?_, fun j hj => ?_, ?_, ?_, ?_, ?_, ?_⟩
  · unfold MS at h1 ⊢
    rw [m1, m2, m3, m4, j1, j2, j3, j4]
    exact h1
  · rw [m1] at hj
    have e := fun o (z1 : 23 ≤ o) (z2 : o ≤ 29) => w1 o z1 z2 j hj
    rw [e 23 (by decide) (by decide), e 24 (by decide) (by decide), e 25 (by decide) (by decide), e 26 (by decide) (by decide), e 27 (by decide) (by decide), e 28 (by decide) (by decide), e 29 (by decide) (by decide)]
    exact h2 j hj
  · unfold MId at h3 ⊢
    rwa [m2, hmr, n30 30 (by decide) (by decide), n30 31 (by decide) (by decide), n30 32 (by decide) (by decide), n30 33 (by decide) (by decide), n30 34 (by decide) (by decide), n30 35 (by decide) (by decide), n30 36 (by decide) (by decide)]
  · unfold MIw at h4 ⊢
    rwa [m3, hmr, n30 37 (by decide) (by decide), n30 38 (by decide) (by decide), n30 39 (by decide) (by decide), n30 40 (by decide) (by decide), n30 41 (by decide) (by decide)]
  · unfold MIs at h5 ⊢
    rwa [m4, hmr, n30 42 (by decide) (by decide), n30 43 (by decide) (by decide), n30 44 (by decide) (by decide), n30 45 (by decide) (by decide)]
  · rwa [n30 46 (by decide) (by decide)]
  · rwa [m2, n30 36 (by decide) (by decide)]


