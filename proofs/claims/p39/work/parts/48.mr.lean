/-! the reference: what changes a plan -/
theorem zk_fold_u {α : Type} (N : Nat → α) (k : Nat) (A : α) : zk_un N k A k = A := by unfold zk_un; rw [if_pos rfl]
/-- a question or a refusal, with thrown told -/
def u_thr (J : Nat → Nat → Int32) (t : Int32) : Nat → Nat → Int32 := zk_uj J 22 0 t
def c_lim (r l : Int32) : Int32 := if m_isIn r 0 9 = false then 1 else if m_isIn l 0 999 = false then 2 else 0
def uN_lim (N : Nat → Nat → Int32) (r : Nat) (l : Int32) : Nat → Nat → Int32 := zk_un N 46 (upd (N 46) r l)
theorem m_isIn_9 {v : Int32} (h : m_isIn v 0 9 = true) : ∃ t, t < 10 ∧ v = nI t := by
  have e : (9 : Int32) = nI 10 - 1 := by decide
  rw [e] at h
  exact m_isIn_lt (by decide) h
theorem m_isIn_VN {v : Int32} {lo hi : Nat} (hh : hi < 2 ^ 30) (hl : lo ≤ hi) (h : m_isIn v (nI lo) (nI hi) = true) : VN v lo hi := by
  unfold m_isIn at h
  have h := of_decide_eq_true h
  rw [i32_le, i32_le, nI_toInt (by omega), nI_toInt (by omega)] at h
  refine ⟨v.toInt.toNat, by omega, by omega, ?_⟩
  apply Int32.toInt_inj.mp
  rw [nI_toInt (by omega)]
  omega
theorem MI.lim {J N : Nat → Nat → Int32} (hm : MI J N) {r : Nat} {l : Int32} (hl : m_isIn l 0 999 = true) : MI J (uN_lim N r l) := by
  obtain ⟨h1, h2, h3, h4, h5, h6, h7⟩ := hm
  refine ⟨h1, h2, h3, h4, h5, fun i hi => ?_, h7⟩
  show VN (upd (N 46) r l i) 0 999
  unfold upd
  split
  · exact m_isIn_VN (lo := 0) (hi := 999) (by decide) (by decide) hl
  · exact h6 i hi
def uN_rmD (N : Nat → Nat → Int32) (d : Nat) : Nat → Nat → Int32 := zk_un N 30 (upd (N 30) d (-2))
theorem MI.rmD {J N : Nat → Nat → Int32} (hm : MI J N) {d : Nat} : MI J (uN_rmD N d) := by
  obtain ⟨h1, h2, h3, h4, h5, h6, h7⟩ := hm
  refine ⟨h1, h2, fun q hq => ?_, h4, h5, h6, h7⟩
  obtain ⟨a1, a2⟩ := h3 q hq
  refine ⟨?_, a2⟩
  show upd (N 30) d (-2) q = -2 ∨ _
  by_cases w : q = d
  · rw [w, upd_self]; exact Or.inl rfl
  · have e : uN_rmD N d 30 q = N 30 q := upd_ne _ _ w
    rw [upd_ne _ _ w]
    rcases a1 with a1 | ⟨r, r1, r2, r3⟩
    · exact Or.inl a1
    · exact Or.inr ⟨r, r1, e.trans r2, r3⟩
def uN_ppl (N : Nat → Nat → Int32) (j : Nat) (p : Int32) : Nat → Nat → Int32 := zk_un N 29 (upd (N 29) j p)
theorem MI.ppl {J N : Nat → Nat → Int32} (hm : MI J N) {j : Nat} {p : Int32} (hp : m_isIn p 0 200 = true) : MI J (uN_ppl N j p) := by
  obtain ⟨h1, h2, h3, h4, h5, h6, h7⟩ := hm
  refine ⟨h1, fun i hi => ?_, h3, h4, h5, h6, h7⟩
  obtain ⟨a1, a2, a3, a4, a5, a6, a7⟩ := h2 i hi
  refine ⟨a1, a2, a3, a4, a5, a6, ?_⟩
  show VN (upd (N 29) j p i) 0 200
  unfold upd
  split
  · exact m_isIn_VN (lo := 0) (hi := 200) (by decide) (by decide) hp
  · exact a7
def uJ_st (J : Nat → Nat → Int32) : Nat → Nat → Int32 := zk_uj J 22 23 (J 22 23 + 1)
def uN_st (N : Nat → Nat → Int32) (n : Nat) (lo hi x y : Int32) : Nat → Nat → Int32 := zk_un (zk_un (zk_un (zk_un N 42 (upd (N 42) n lo)) 43 (upd (N 43) n hi)) 44 (upd (N 44) n x)) 45 (upd (N 45) n y)
def m_pt (N : Nat → Nat → Int32) (r : Nat) (x y : Int32) : Bool := m_isIn x (N 24 r) (N 24 r + N 26 r) && m_isIn y (N 25 r) (N 25 r + N 27 r)
/-- thrown, by addStairs, both rooms there -/
def c_st (J N : Nat → Nat → Int32) (lo hi : Nat) (x y : Int32) : Int32 := if ¬ N 23 hi = N 23 lo + 1 ∨ m_pt N lo x y = false ∨ m_pt N hi x y = false then 2 else if J 22 23 = 10 then 3 else 0
theorem m_pt_rg {N : Nat → Nat → Int32} {r : Nat} {x y : Int32} (hr : GR N r) (h : m_pt N r x y = true) : VN x 0 90 ∧ VN y 0 90 := by
  unfold m_pt m_isIn at h
  rw [Bool.and_eq_true] at h
  obtain ⟨q1, q2⟩ := h
  have q1 := of_decide_eq_true q1
  have q2 := of_decide_eq_true q2
  obtain ⟨h1, h2, h3, h4⟩ := hr
  have a1 := h1.toI (by decide)
  have a2 := h2.toI (by decide)
  have a3 := h3.toI (by decide)
  have a4 := h4.toI (by decide)
  rw [i32_le, i32_le, n_addI (by omega) (by omega)] at q1 q2
  have vn : ∀ x : Int32, 0 ≤ x.toInt → x.toInt ≤ 90 → VN x 0 90 := fun x z1 z2 => ⟨x.toInt.toNat, Nat.zero_le _, by omega, by
    apply Int32.toInt_inj.mp
    rw [nI_toInt (by omega)]
    omega⟩
  exact ⟨vn _ (by omega) (by omega), vn _ (by omega) (by omega)⟩
theorem VN.one {x : Int32} {n : Nat} (h : x = nI n) {lo hi : Nat} (h1 : lo ≤ n) (h2 : n ≤ hi) : VN x lo hi := ⟨n, h1, h2, h⟩
theorem nI_s {J : Nat → Nat → Int32} {o k n : Nat} (h : J o k = nI n) : J o k + 1 = nI (n + 1) := by rw [h, n_succ]
theorem MI.st {J N : Nat → Nat → Int32} (hm : MI J N) {j k : Nat} {x y : Int32} (hj : MR J N j) (hk : MR J N k) (hne : k ≠ j) (hn : m_ns J < 10) (hp : VN x 0 90 ∧ VN y 0 90) : MI (uJ_st J) (uN_st N (m_ns J) (nI j) (nI k) x y) ∧ m_ns (uJ_st J) = m_ns J + 1 := by
  obtain ⟨h1, h2, h3, h4, h5, h6, h7⟩ := hm
  obtain ⟨q1, q2, q3, q4, q5⟩ := h1
  have e1 : (uJ_st J) 22 23 = nI (m_ns J + 1) := nI_s q4
  have e2 : m_ns (uJ_st J) = m_ns J + 1 := by unfold m_ns; rw [e1, n_cl (by unfold m_ns at hn; omega)]; rfl
  refine ⟨⟨⟨q1, q2, q3, by rw [e2]; exact e1, by rw [e2]; omega⟩, h2, h3, h4, fun s hs => ?_, h6, h7⟩, e2⟩
  rw [e2] at hs
  show (upd (N 42) (m_ns J) (nI j) s = -2 ∨ ∃ r, MR J N r ∧ upd (N 42) (m_ns J) (nI j) s = nI r ∧ ∃ q, MR J N q ∧ q ≠ r ∧ upd (N 43) (m_ns J) (nI k) s = nI q) ∧ VN (upd (N 44) (m_ns J) x s) 0 90 ∧ VN (upd (N 45) (m_ns J) y s) 0 90
  by_cases w : s = m_ns J
  · rw [w, upd_self, upd_self, upd_self, upd_self]
    exact ⟨Or.inr ⟨j, hj, rfl, k, hk, hne, rfl⟩, hp.1, hp.2⟩
  · rw [upd_ne _ _ w, upd_ne _ _ w, upd_ne _ _ w, upd_ne _ _ w]
    exact h5 s (by omega)


