/-! what a plan keeps to -/
def VN (x : Int32) (lo hi : Nat) : Prop := ∃ n : Nat, lo ≤ n ∧ n ≤ hi ∧ x = nI n
theorem VN.eq {x : Int32} {lo hi : Nat} (h : VN x lo hi) (hh : hi < 2 ^ 30) : x = nI x.toNatClampNeg ∧ lo ≤ x.toNatClampNeg ∧ x.toNatClampNeg ≤ hi := by
  obtain ⟨n, h1, h2, rfl⟩ := h
  rw [n_cl (by omega)]
  exact ⟨rfl, h1, h2⟩
/-- a room that is there -/
def MR (J N : Nat → Nat → Int32) (r : Nat) : Prop := r < m_nr J ∧ ¬ N 23 r = -2
def MIr (J N : Nat → Nat → Int32) : Prop := ∀ j, j < m_nr J → (N 23 j = -2 ∨ VN (N 23 j) 0 2) ∧ VN (N 24 j) 0 60 ∧ VN (N 25 j) 0 60 ∧ VN (N 26 j) 1 30 ∧ VN (N 27 j) 1 30 ∧ VN (N 28 j) 0 3 ∧ VN (N 29 j) 0 200
def MId (J N : Nat → Nat → Int32) : Prop := ∀ d, d < m_nd J → (N 30 d = -2 ∨ ∃ r, MR J N r ∧ N 30 d = nI r ∧ (N 31 d = -1 ∨ ∃ q, MR J N q ∧ q ≠ r ∧ N 31 d = nI q)) ∧ VN (N 32 d) 0 90 ∧ VN (N 33 d) 0 90 ∧ VN (N 34 d) 1 6 ∧ (N 35 d = 0 ∨ N 35 d = 1) ∧ (N 36 d = 0 ∨ N 36 d = 1)
def MIw (J N : Nat → Nat → Int32) : Prop := ∀ k, k < m_nw J → (N 37 k = -2 ∨ ∃ r, MR J N r ∧ N 37 k = nI r) ∧ VN (N 38 k) 0 90 ∧ VN (N 39 k) 0 90 ∧ VN (N 40 k) 1 6 ∧ (N 41 k = 0 ∨ N 41 k = 1)
def MIs (J N : Nat → Nat → Int32) : Prop := ∀ s, s < m_ns J → (N 42 s = -2 ∨ ∃ r, MR J N r ∧ N 42 s = nI r ∧ ∃ q, MR J N q ∧ q ≠ r ∧ N 43 s = nI q) ∧ VN (N 44 s) 0 90 ∧ VN (N 45 s) 0 90
def MI (J N : Nat → Nat → Int32) : Prop := MS J ∧ MIr J N ∧ MId J N ∧ MIw J N ∧ MIs J N ∧ (∀ i, i < 10 → VN (N 46 i) 0 999) ∧ (∀ d, m_nd J ≤ d → d < 40 → N 36 d = 0)
theorem ES.nr {J J2 N N2 : Nat → Nat → Int32} (h : ES J J2 N N2) : m_nr J2 = m_nr J := by unfold m_nr; rw [h.1]
theorem ES.nd {J J2 N N2 : Nat → Nat → Int32} (h : ES J J2 N N2) : m_nd J2 = m_nd J := by unfold m_nd; rw [h.2.1]
theorem ES.nw {J J2 N N2 : Nat → Nat → Int32} (h : ES J J2 N N2) : m_nw J2 = m_nw J := by unfold m_nw; rw [h.2.2.1]
theorem ES.ns {J J2 N N2 : Nat → Nat → Int32} (h : ES J J2 N N2) : m_ns J2 = m_ns J := by unfold m_ns; rw [h.2.2.2.1]
theorem ES.n {J J2 N N2 : Nat → Nat → Int32} (h : ES J J2 N N2) {o : Nat} (h1 : 23 ≤ o ∧ o ≤ 46) : N2 o = N o := h.2.2.2.2 o h1.1 h1.2
theorem ES.mr {J J2 N N2 : Nat → Nat → Int32} (h : ES J J2 N N2) : MR J2 N2 = MR J N := by
  funext r
  unfold MR
  rw [h.nr, h.n (by decide)]
theorem ES.mi {J J2 N N2 : Nat → Nat → Int32} (h : ES J J2 N N2) (hm : MI J N) : MI J2 N2 := by
  obtain ⟨h1, h2, h3, h4, h5, h6, h7⟩ := hm
  refine ⟨h.ms h1, ?_, ?_, ?_, ?_, ?_, ?_⟩
  · unfold MIr at h2 ⊢
    rwa [h.nr, h.n (o := 23) (by decide), h.n (o := 24) (by decide), h.n (o := 25) (by decide), h.n (o := 26) (by decide), h.n (o := 27) (by decide), h.n (o := 28) (by decide), h.n (o := 29) (by decide)]
  · unfold MId at h3 ⊢
    rwa [h.nd, h.mr, h.n (o := 30) (by decide), h.n (o := 31) (by decide), h.n (o := 32) (by decide), h.n (o := 33) (by decide), h.n (o := 34) (by decide), h.n (o := 35) (by decide), h.n (o := 36) (by decide)]
  · unfold MIw at h4 ⊢
    rwa [h.nw, h.mr, h.n (o := 37) (by decide), h.n (o := 38) (by decide), h.n (o := 39) (by decide), h.n (o := 40) (by decide), h.n (o := 41) (by decide)]
  · unfold MIs at h5 ⊢
    rwa [h.ns, h.mr, h.n (o := 42) (by decide), h.n (o := 43) (by decide), h.n (o := 44) (by decide), h.n (o := 45) (by decide)]
  · rwa [h.n (o := 46) (by decide)]
  · rwa [h.nd, h.n (o := 36) (by decide)]
theorem nI_ne2 {r : Nat} (h : r < 2 ^ 31) : ¬ nI r = -2 := by
  intro e
  have := nI_toInt (n := r) h
  rw [e] at this
  have h2 : (-2 : Int32).toInt = -2 := rfl
  omega
theorem nI_ne1 {r : Nat} (h : r < 2 ^ 31) : ¬ nI r = -1 := by
  intro e
  have := nI_toInt (n := r) h
  rw [e] at this
  have h2 : (-1 : Int32).toInt = -1 := rfl
  omega
theorem MR.lt {J N : Nat → Nat → Int32} {r : Nat} (hm : MI J N) (h : MR J N r) : r < 20 := Nat.lt_of_lt_of_le h.1 hm.1.1.2
/-- where a direction that is there comes from and leads to -/
theorem m_ends {J N : Nat → Nat → Int32} {e : Nat} (hm : MI J N) (he : e ∈ m_act J N) :
    ∃ r, MR J N r ∧ m_from J N e = nI r ∧ (m_into N e = -1 ∨ ∃ q, MR J N q ∧ q ≠ r ∧ m_into N e = nI q) := by
  obtain ⟨he, hf⟩ := m_act_mem.mp he
  obtain ⟨hms, hr, hd, hw, hs, -, -⟩ := hm
  unfold m_from at hf ⊢
  unfold m_into
  by_cases k40 : e / 2 < 40
  · simp only [if_pos k40] at hf ⊢
    by_cases c1 : m_nd J ≤ e / 2 ∨ N 30 (e / 2) = -2 ∨ ¬ N 36 (e / 2) = 0
    · rw [if_pos c1] at hf; exact absurd rfl hf
    · rw [if_neg c1] at hf ⊢
      have c2 : ¬ m_nd J ≤ e / 2 := fun q => c1 (Or.inl q)
      rcases (hd (e / 2) (by omega)).1 with q | ⟨r, r1, r2, r3⟩
      · exact absurd (Or.inr (Or.inl q)) c1
      · by_cases p : e % 2 = 0
        · simp only [if_pos p]
          exact ⟨r, r1, r2, r3⟩
        · simp only [if_neg p] at hf ⊢
          rcases r3 with q | ⟨q, q1, q2, q3⟩
          · rw [if_pos q] at hf; exact absurd rfl hf
          · have q4 := Nat.lt_of_lt_of_le q1.1 hms.1.2
            rw [q3, if_neg (nI_ne1 (by omega))]
            exact ⟨q, q1, rfl, Or.inr ⟨r, r1, fun x => q2 x.symm, r2⟩⟩
  · simp only [if_neg k40] at hf ⊢
    by_cases c1 : m_ns J ≤ e / 2 - 40 ∨ N 42 (e / 2 - 40) = -2
    · rw [if_pos c1] at hf; exact absurd rfl hf
    · rw [if_neg c1] at hf ⊢
      have c2 : ¬ m_ns J ≤ e / 2 - 40 := fun q => c1 (Or.inl q)
      rcases (hs (e / 2 - 40) (by omega)).1 with q | ⟨r, r1, r2, q, q1, q2, q3⟩
      · exact absurd (Or.inr q) c1
      · by_cases p : e % 2 = 0
        · simp only [if_pos p]
          exact ⟨r, r1, r2, Or.inr ⟨q, q1, q2, q3⟩⟩
        · simp only [if_neg p]
          exact ⟨q, q1, q3, Or.inr ⟨r, r1, fun x => q2 x.symm, r2⟩⟩
theorem VN.pt {x w : Int32} {l1 h1 h2 : Nat} (hx : VN x 0 90) (hw : VN w l1 h1) (hb : h1 ≤ 6) : VN (2 * x + w) 0 186 := by
  obtain ⟨a, -, a2, rfl⟩ := hx
  obtain ⟨b, -, b2, rfl⟩ := hw
  exact ⟨2 * a + b, by omega, by omega, by rw [show (2 : Int32) = nI 2 from rfl, n_mul, n_add]⟩
theorem VN.pt0 {x : Int32} (hx : VN x 0 90) : VN (2 * x) 0 186 := by
  obtain ⟨a, -, a2, rfl⟩ := hx
  exact ⟨2 * a, by omega, by omega, by rw [show (2 : Int32) = nI 2 from rfl, n_mul]⟩
theorem VN.zero : VN 0 0 6 := ⟨0, by decide, by decide, rfl⟩
theorem m_gx {J N : Nat → Nat → Int32} {e : Nat} (hm : MI J N) (he : e ∈ m_act J N) : GX N e := by
  obtain ⟨he, hf⟩ := m_act_mem.mp he
  obtain ⟨hms, hr, hd, hw, hs, -, -⟩ := hm
  suffices h : VN (m_px N e) 0 186 ∧ VN (m_py N e) 0 186 by
    have a := h.1.eq (by decide)
    have b := h.2.eq (by decide)
    exact ⟨⟨a.1, by unfold g_x; omega⟩, b.1, by unfold g_y; omega⟩
  unfold m_from at hf
  unfold m_px m_py
  by_cases k40 : e / 2 < 40
  · simp only [if_pos k40] at hf ⊢
    by_cases c1 : m_nd J ≤ e / 2 ∨ N 30 (e / 2) = -2 ∨ ¬ N 36 (e / 2) = 0
    · rw [if_pos c1] at hf; exact absurd rfl hf
    · have c2 : ¬ m_nd J ≤ e / 2 := fun q => c1 (Or.inl q)
      obtain ⟨-, q1, q2, q3, -, -⟩ := hd (e / 2) (by omega)
      by_cases p : N 35 (e / 2) = 0
      · rw [if_pos p, if_pos p]
        exact ⟨VN.pt (h2 := 0) q1 q3 (by decide), VN.pt (h2 := 0) q2 VN.zero (by decide)⟩
      · rw [if_neg p, if_neg p]
        exact ⟨VN.pt (h2 := 0) q1 VN.zero (by decide), VN.pt (h2 := 0) q2 q3 (by decide)⟩
  · simp only [if_neg k40] at hf ⊢
    by_cases c1 : m_ns J ≤ e / 2 - 40 ∨ N 42 (e / 2 - 40) = -2
    · rw [if_pos c1] at hf; exact absurd rfl hf
    · have c2 : ¬ m_ns J ≤ e / 2 - 40 := fun q => c1 (Or.inl q)
      obtain ⟨-, q1, q2⟩ := hs (e / 2 - 40) (by omega)
      exact ⟨q1.pt0, q2.pt0⟩
/-- all but what the reference's own rows of a question hold -/
def SE (J J2 N N2 : Nat → Nat → Int32) : Prop := (∀ o k, ¬ (o = 22 ∧ (k = 0 ∨ k = 33 ∨ k = 35)) → J2 o k = J o k) ∧ ∀ o, o < 47 ∨ 53 < o → N2 o = N o
theorem SE.es {J J2 N N2 : Nat → Nat → Int32} (h : SE J J2 N N2) : ES J J2 N N2 :=
  ⟨h.1 22 1 (by omega), h.1 22 9 (by omega), h.1 22 17 (by omega), h.1 22 23 (by omega), fun o _ h2 => h.2 o (by omega)⟩
theorem SE.refl (J N : Nat → Nat → Int32) : SE J J N N := ⟨fun _ _ _ => rfl, fun _ _ => rfl⟩
theorem SE.trans {J J2 J3 N N2 N3 : Nat → Nat → Int32} (h : SE J J2 N N2) (h2 : SE J2 J3 N2 N3) : SE J J3 N N3 :=
  ⟨fun o k q => (h2.1 o k q).trans (h.1 o k q), fun o q => (h2.2 o q).trans (h.2 o q)⟩
theorem SE.uj {J J2 N N2 : Nat → Nat → Int32} (h : SE J J2 N N2) {k : Nat} {x : Int32} (hk : k = 0 ∨ k = 33 ∨ k = 35) : SE J (zk_uj J2 22 k x) N N2 :=
  ⟨fun o a q => by unfold zk_uj; rw [if_neg (by omega)]; exact h.1 o a q, h.2⟩
theorem SE.un {J J2 N N2 : Nat → Nat → Int32} (h : SE J J2 N N2) {k : Nat} {g : Nat → Int32} (hk : 47 ≤ k ∧ k ≤ 53) : SE J J2 N (zk_un N2 k g) :=
  ⟨h.1, fun o q => by unfold zk_un; rw [if_neg (by omega)]; exact h.2 o q⟩


