/-! the reference: removeRoom, addDoor, addWindow -/
def q_30 (N : Nat → Nat → Int32) (r : Int32) (d : Nat) : Bool := decide (¬ N 30 d = -2) && (decide (N 30 d = r) || decide (N 31 d = r))
def q_37 (N : Nat → Nat → Int32) (r : Int32) (d : Nat) : Bool := decide (N 37 d = r)
def q_42 (N : Nat → Nat → Int32) (r : Int32) (d : Nat) : Bool := decide (¬ N 42 d = -2) && (decide (N 42 d = r) || decide (N 43 d = r))
def rmf (p : Nat → Bool) (n : Nat) (a : Nat → Int32) : Nat → Int32 := fun d => if d < n ∧ p d = true then -2 else a d
def cntB (p : Nat → Bool) : Nat → Nat
  | 0 => 0
  | n + 1 => cntB p n + if p n = true then 1 else 0
theorem cntB_le (p : Nat → Bool) : ∀ n, cntB p n ≤ n
  | 0 => Nat.le_refl _
  | n + 1 => by have := cntB_le p n; rw [cntB]; split <;> omega
theorem rmf_0 (p : Nat → Bool) (a : Nat → Int32) : rmf p 0 a = a := by funext d; unfold rmf; rw [if_neg (fun h => absurd h.1 (Nat.not_lt_zero _))]
theorem rmf_at (p : Nat → Bool) (n : Nat) (a : Nat → Int32) : rmf p n a n = a n := by unfold rmf; rw [if_neg (fun h => absurd h.1 (Nat.lt_irrefl _))]
theorem rmf_t {p : Nat → Bool} {n : Nat} (a : Nat → Int32) (h : p n = true) : upd (rmf p n a) n (-2) = rmf p (n + 1) a := by
  funext d
  unfold upd rmf
  by_cases e : d = n
  · rw [if_pos e, if_pos ⟨by omega, by rw [e]; exact h⟩]
  · rw [if_neg e]
    by_cases q : d < n ∧ p d = true
    · rw [if_pos q, if_pos ⟨by omega, q.2⟩]
    · rw [if_neg q, if_neg (fun w => q ⟨by omega, w.2⟩)]
theorem rmf_f {p : Nat → Bool} {n : Nat} (a : Nat → Int32) (h : p n = false) : rmf p n a = rmf p (n + 1) a := by
  funext d
  unfold rmf
  by_cases q : d < n ∧ p d = true
  · rw [if_pos q, if_pos ⟨by omega, q.2⟩]
  · rw [if_neg q, if_neg (show ¬ (d < n + 1 ∧ p d = true) from fun w => by
      rcases Nat.lt_succ_iff_lt_or_eq.mp w.1 with z | z
      · exact q ⟨z, w.2⟩
      · rw [z, h] at w
        exact absurd w.2 (by decide))]
def uN_rm (J N : Nat → Nat → Int32) (j : Nat) : Nat → Nat → Int32 := zk_un (zk_un (zk_un (zk_un N 30 (rmf (q_30 N (nI j)) (m_nd J) (N 30))) 37 (rmf (q_37 N (nI j)) (m_nw J) (N 37))) 42 (rmf (q_42 N (nI j)) (m_ns J) (N 42))) 23 (upd (N 23) j (-2))
def a_rm (J N : Nat → Nat → Int32) (j : Nat) : Nat := cntB (q_30 N (nI j)) (m_nd J) + cntB (q_37 N (nI j)) (m_nw J) + cntB (q_42 N (nI j)) (m_ns J)
theorem MI.rm {J N : Nat → Nat → Int32} (hm : MI J N) {j : Nat} (hj : MR J N j) : MI J (uN_rm J N j) := by
  have hj20 := hj.lt hm
  obtain ⟨h1, h2, h3, h4, h5, h6, h7⟩ := hm
  have e23 : ∀ k, uN_rm J N j 23 k = if k = j then -2 else N 23 k := fun k => rfl
  have e30 : uN_rm J N j 30 = rmf (q_30 N (nI j)) (m_nd J) (N 30) := rfl
  have e37 : uN_rm J N j 37 = rmf (q_37 N (nI j)) (m_nw J) (N 37) := rfl
  have e42 : uN_rm J N j 42 = rmf (q_42 N (nI j)) (m_ns J) (N 42) := rfl
  have hmr : ∀ r, MR J N r → r ≠ j → MR J (uN_rm J N j) r := fun r hr hne => ⟨hr.1, by rw [e23, if_neg hne]; exact hr.2⟩
  refine ⟨h1, fun i hi => ?_, fun d hd => ?_, fun k hk => ?_, fun s hs => ?_, h6, h7⟩
  · obtain ⟨a1, a2⟩ := h2 i hi
    refine ⟨?_, a2⟩
    rw [e23]
    split
    · exact Or.inl rfl
    · exact a1
  · obtain ⟨a1, a2⟩ := h3 d hd
    refine ⟨?_, a2⟩
    rw [e30]
    unfold rmf
    by_cases q : d < m_nd J ∧ q_30 N (nI j) d = true
    · rw [if_pos q]; exact Or.inl rfl
    · rw [if_neg q]
      rcases a1 with a1 | ⟨r, r1, r2, r3⟩
      · exact Or.inl a1
      · have nq : q_30 N (nI j) d = false := by
          cases z : q_30 N (nI j) d with
          | false => rfl
          | true => exact absurd ⟨hd, z⟩ q
        unfold q_30 at nq
        rw [decide_eq_true (show ¬ N 30 d = -2 by rw [r2]; exact nI_ne2 (by have := h1.1.2; have := r1.1; omega)), Bool.true_and, Bool.or_eq_false_iff] at nq
        have n1 := of_decide_eq_false nq.1
        have n2 := of_decide_eq_false nq.2
        refine Or.inr ⟨r, hmr r r1 (fun z => n1 (by rw [r2, z])), r2, ?_⟩
        rcases r3 with r3 | ⟨q, z1, z2, z3⟩
        · exact Or.inl r3
        · exact Or.inr ⟨q, hmr q z1 (fun z => n2 (by show N 31 d = nI j; rw [← z]; exact z3)), z2, z3⟩
  · obtain ⟨a1, a2⟩ := h4 k hk
    refine ⟨?_, a2⟩
    rw [e37]
    unfold rmf
    by_cases q : k < m_nw J ∧ q_37 N (nI j) k = true
    · rw [if_pos q]; exact Or.inl rfl
    · rw [if_neg q]
      refine a1.imp id (fun ⟨r, r1, r2⟩ => ⟨r, hmr r r1 (fun z => q ⟨hk, ?_⟩), r2⟩)
      unfold q_37
      rw [r2, z]
      exact decide_eq_true rfl
  · obtain ⟨a1, a2⟩ := h5 s hs
    refine ⟨?_, a2⟩
    rw [e42]
    unfold rmf
    by_cases q : s < m_ns J ∧ q_42 N (nI j) s = true
    · rw [if_pos q]; exact Or.inl rfl
    · rw [if_neg q]
      rcases a1 with a1 | ⟨r, r1, r2, q2, z1, z2, z3⟩
      · exact Or.inl a1
      · have nq : q_42 N (nI j) s = false := by
          cases z : q_42 N (nI j) s with
          | false => rfl
          | true => exact absurd ⟨hs, z⟩ q
        unfold q_42 at nq
        rw [decide_eq_true (show ¬ N 42 s = -2 by rw [r2]; exact nI_ne2 (by have := h1.1.2; have := r1.1; omega)), Bool.true_and, Bool.or_eq_false_iff] at nq
        have n1 := of_decide_eq_false nq.1
        have n2 := of_decide_eq_false nq.2
        exact Or.inr ⟨r, hmr r r1 (fun z => n1 (by rw [r2, z])), r2, q2, hmr q2 z1 (fun z => n2 (by show N 43 s = nI j; rw [← z]; exact z3)), z2, z3⟩
def c_door (J N : Nat → Nat → Int32) (j : Nat) (o ix iy up w : Int32) : Int32 :=
  if m_isIn w 1 6 = false ∨ (if o = -1 then ¬ N 23 j = 0 else o = nI j ∨ ¬ N 23 o.toNatClampNeg = N 23 j) then 2 else if m_nd J = 40 ∨ m_canBe J N j o ix iy up w = false then 3 else 0
def uJ_door (J : Nat → Nat → Int32) : Nat → Nat → Int32 := zk_uj J 22 9 (J 22 9 + 1)
def uN_door (N : Nat → Nat → Int32) (n : Nat) (r o x y up w : Int32) : Nat → Nat → Int32 := zk_un (zk_un (zk_un (zk_un (zk_un (zk_un N 30 (upd (N 30) n r)) 31 (upd (N 31) n o)) 32 (upd (N 32) n x)) 33 (upd (N 33) n y)) 35 (upd (N 35) n up)) 34 (upd (N 34) n w)
/-- out, or a room that is there, or neither -/
def OD (J N : Nat → Nat → Int32) (o : Int32) (A : Prop) (B : Prop) : Prop := ((o = -1 ∨ ∃ k, MR J N k ∧ o = nI k) ∧ A) ∨ ((¬ o = -1 ∧ m_isRoom J N o = false) ∧ B)
theorem OD.mk {J N : Nat → Nat → Int32} {o : Int32} {A B : Prop} (hms : MS J) (h1 : (o = -1 ∨ ∃ k, MR J N k ∧ o = nI k) → A) (h2 : ¬ o = -1 → m_isRoom J N o = false → B) : OD J N o A B := by
  by_cases q : o = -1
  · exact Or.inl ⟨Or.inl q, h1 (Or.inl q)⟩
  · cases h : m_isRoom J N o with
    | false => exact Or.inr ⟨⟨q, h⟩, h2 q h⟩
    | true =>
      have := m_isRoom_f hms h
      exact Or.inl ⟨Or.inr this, h1 (Or.inr this)⟩

