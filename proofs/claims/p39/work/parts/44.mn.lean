/-! the reference: lostWithout, timeWith, mostPeople -/
theorem ES.un2 {J J2 N N2 : Nat → Nat → Int32} (h : ES J J2 N N2) (k : Nat) (A : Nat → Int32) : ES J J2 (zk_un N k A) (zk_un N2 k A) :=
  ⟨h.1, h.2.1, h.2.2.1, h.2.2.2.1, fun o a b => by
    unfold zk_un
    split
    · rfl
    · exact h.2.2.2.2 o a b⟩
theorem m_isIn_6 {v : Int32} (h : m_isIn v 1 6 = true) : ∃ t, 1 ≤ t ∧ t ≤ 6 ∧ v = nI t := by
  unfold m_isIn at h
  have h := of_decide_eq_true h
  rw [Int32.le_iff_toInt_le, Int32.le_iff_toInt_le] at h
  have h1 : (1 : Int32).toInt = 1 := rfl
  have h6 : (6 : Int32).toInt = 6 := rfl
  rw [h1, h6] at h
  refine ⟨v.toInt.toNat, by omega, by omega, ?_⟩
  apply Int32.toInt_inj.mp
  rw [nI_toInt (by omega)]
  omega
def g_most (N : Nat → Nat → Int32) (r : Nat) : Int32 := if 0 < N 46 3 then i_min 200 (N 26 r * N 27 r / N 46 3) else 200
def a_most (J N : Nat → Nat → Int32) (r : Nat) : Int32 := if a_ex J N (nI r) < 2 then i_min (g_most N r) (N 46 6) else g_most N r
theorem ES.most {J J2 N N2 : Nat → Nat → Int32} (h : ES J J2 N N2) : a_most J2 N2 = a_most J N := by
  funext r; unfold a_most g_most; rw [h.ex, h.n (o := 26) (by decide), h.n (o := 27) (by decide), h.n (o := 46) (by decide)]

