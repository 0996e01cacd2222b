/-! the reference: addRoom, removeRoom -/
def WE (n : Nat) (N N2 : Nat → Nat → Int32) : Prop := (∀ o, 23 ≤ o → o ≤ 29 → ∀ k, k < n → N2 o k = N o k) ∧ (∀ o, 30 ≤ o → o ≤ 46 → N2 o = N o)
def WQ (J J2 N N2 : Nat → Nat → Int32) (t : Int32) : Prop := J2 = zk_uj J 22 0 t ∧ WE (m_nr J) N N2 ∧ ∀ o, o < 23 ∨ 46 < o → N2 o = N o
theorem WQ.thr (J N : Nat → Nat → Int32) (t : Int32) : WQ J (zk_uj J 22 0 t) N N t := ⟨rfl, ⟨fun _ _ _ _ _ => rfl, fun _ _ _ => rfl⟩, fun _ _ => rfl⟩
def m_okR (fl x y w h u : Int32) : Bool := m_isIn fl 0 2 && (m_isIn x 0 60 && (m_isIn y 0 60 && (m_isIn w 1 30 && (m_isIn h 1 30 && m_isIn u 0 3))))
def m_hit (N : Nat → Nat → Int32) (fl x y w h : Int32) (r : Nat) : Bool := decide (N 23 r = fl) && decide (0 < u_common (N 24 r) (N 26 r) (N 25 r) (N 27 r) x w y h)
def c_room (J N : Nat → Nat → Int32) (fl x y w h u : Int32) : Int32 := if m_okR fl x y w h u = false then 1 else if m_nr J = 20 then 2 else if m_ex (m_hit N fl x y w h) (m_nr J) = true then 2 else 0
def uJ_room (J : Nat → Nat → Int32) : Nat → Nat → Int32 := zk_uj J 22 1 (J 22 1 + 1)
def uN_room (N : Nat → Nat → Int32) (n : Nat) (fl x y w h u : Int32) : Nat → Nat → Int32 := zk_un (zk_un (zk_un (zk_un (zk_un (zk_un (zk_un N 23 (upd (N 23) n fl)) 24 (upd (N 24) n x)) 25 (upd (N 25) n y)) 26 (upd (N 26) n w)) 27 (upd (N 27) n h)) 28 (upd (N 28) n u)) 29 (upd (N 29) n 0)
theorem uN_room_we (N : Nat → Nat → Int32) (n : Nat) (fl x y w h u : Int32) : WE n N (uN_room N n fl x y w h u) := by
  refine ⟨fun o h1 h2 k hk => ?_, fun o h1 h2 => ?_⟩
  · have : o = 23 ∨ o = 24 ∨ o = 25 ∨ o = 26 ∨ o = 27 ∨ o = 28 ∨ o = 29 := by omega
    have hk2 : k ≠ n := by omega
    rcases this with rfl | rfl | rfl | rfl | rfl | rfl | rfl <;> exact upd_ne _ _ hk2
  · unfold uN_room zk_un
    simp only [if_neg (show ¬ o = 23 by omega), if_neg (show ¬ o = 24 by omega), if_neg (show ¬ o = 25 by omega), if_neg (show ¬ o = 26 by omega), if_neg (show ¬ o = 27 by omega), if_neg (show ¬ o = 28 by omega), if_neg (show ¬ o = 29 by omega)]
theorem uN_room_ot (N : Nat → Nat → Int32) (n : Nat) (fl x y w h u : Int32) {o : Nat} (ho : o < 23 ∨ 46 < o) : uN_room N n fl x y w h u o = N o := by
  unfold uN_room zk_un
  simp only [if_neg (show ¬ o = 23 by omega), if_neg (show ¬ o = 24 by omega), if_neg (show ¬ o = 25 by omega), if_neg (show ¬ o = 26 by omega), if_neg (show ¬ o = 27 by omega), if_neg (show ¬ o = 28 by omega), if_neg (show ¬ o = 29 by omega)]
theorem MI.room {J N : Nat → Nat → Int32} (hm : MI J N) {fl x y w h u : Int32} (hok : m_okR fl x y w h u = true) (hn : ¬ m_nr J = 20) : MI (uJ_room J) (uN_room N (m_nr J) fl x y w h u) ∧ m_nr (uJ_room J) = m_nr J + 1 := by
  obtain ⟨h1, h2, h3, h4, h5, h6, h7⟩ := hm
  obtain ⟨q1, q2, q3, q4, q5⟩ := h1
  have hn20 := q1.2
  have e1 : (uJ_room J) 22 1 = nI (m_nr J + 1) := nI_s q1.1
  have e2 : m_nr (uJ_room J) = m_nr J + 1 := by
    show ((uJ_room J) 22 1).toNatClampNeg = _
    rw [e1, n_cl (by omega)]
  have hwe := uN_room_we N (m_nr J) fl x y w h u
  have hmr : ∀ r, MR J N r → MR (uJ_room J) (uN_room N (m_nr J) fl x y w h u) r := fun r hr => ⟨by rw [e2]; exact Nat.lt_succ_of_lt hr.1, by rw [hwe.1 23 (by decide) (by decide) r hr.1]; exact hr.2⟩
  refine ⟨⟨⟨⟨by rw [e2]; exact e1, by rw [e2]; omega⟩, q2, q3, q4, q5⟩, fun j hj => ?_, fun d hd => ?_, fun k hk => ?_, fun s hs => ?_, h6, h7⟩, e2⟩
  · rw [e2] at hj
    by_cases z : j = m_nr J
    · subst z
      unfold m_okR at hok
      simp only [Bool.and_eq_true] at hok
      obtain ⟨a1, a2, a3, a4, a5, a6⟩ := hok
      have f1 : uN_room N (m_nr J) fl x y w h u 23 (m_nr J) = fl := upd_self _ _ _
      have f2 : uN_room N (m_nr J) fl x y w h u 24 (m_nr J) = x := upd_self _ _ _
      have f3 : uN_room N (m_nr J) fl x y w h u 25 (m_nr J) = y := upd_self _ _ _
      have f4 : uN_room N (m_nr J) fl x y w h u 26 (m_nr J) = w := upd_self _ _ _
      have f5 : uN_room N (m_nr J) fl x y w h u 27 (m_nr J) = h := upd_self _ _ _
      have f6 : uN_room N (m_nr J) fl x y w h u 28 (m_nr J) = u := upd_self _ _ _
      have f7 : uN_room N (m_nr J) fl x y w h u 29 (m_nr J) = 0 := upd_self _ _ _
      rw [f1, f2, f3, f4, f5, f6, f7]
      exact ⟨Or.inr (m_isIn_VN (lo := 0) (hi := 2) (by decide) (by decide) a1), m_isIn_VN (lo := 0) (hi := 60) (by decide) (by decide) a2, m_isIn_VN (lo := 0) (hi := 60) (by decide) (by decide) a3, m_isIn_VN (lo := 1) (hi := 30) (by decide) (by decide) a4, m_isIn_VN (lo := 1) (hi := 30) (by decide) (by decide) a5, m_isIn_VN (lo := 0) (hi := 3) (by decide) (by decide) a6, ⟨0, by decide, by decide, rfl⟩⟩
    · have hj2 : j < m_nr J := by omega
      rw [hwe.1 23 (by decide) (by decide) j hj2, hwe.1 24 (by decide) (by decide) j hj2, hwe.1 25 (by decide) (by decide) j hj2, hwe.1 26 (by decide) (by decide) j hj2, hwe.1 27 (by decide) (by decide) j hj2, hwe.1 28 (by decide) (by decide) j hj2, hwe.1 29 (by decide) (by decide) j hj2]
      exact h2 j hj2
  · obtain ⟨a1, a2⟩ := h3 d hd
    refine ⟨?_, a2⟩
    rcases a1 with a1 | ⟨r, r1, r2, r3⟩
    · exact Or.inl a1
    · exact Or.inr ⟨r, hmr r r1, r2, r3.imp id (fun ⟨q, z1, z2, z3⟩ => ⟨q, hmr q z1, z2, z3⟩)⟩
  · obtain ⟨a1, a2⟩ := h4 k hk
    exact ⟨a1.imp id (fun ⟨r, r1, r2⟩ => ⟨r, hmr r r1, r2⟩), a2⟩
  · obtain ⟨a1, a2⟩ := h5 s hs
    exact ⟨a1.imp id (fun ⟨r, r1, r2, q, z1, z2, z3⟩ => ⟨r, hmr r r1, r2, q, hmr q z1, z2, z3⟩), a2⟩


