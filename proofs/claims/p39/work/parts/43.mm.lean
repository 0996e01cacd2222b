/-! the reference: meanWay, what would be -/
def g_mo (J N : Nat → Nat → Int32) (r : Nat) : Bool := decide (N 23 r = -2) || decide (lea J N r = 100)
def g_ms (J N : Nat → Nat → Int32) (r : Nat) : Int32 := if g_mo J N r = true then 0 else N 29 r * nI (BB J N r).1
def g_mp (J N : Nat → Nat → Int32) (r : Nat) : Int32 := if g_mo J N r = true then 0 else N 29 r
theorem ES.gmo {J J2 N N2 : Nat → Nat → Int32} (h : ES J J2 N N2) : g_mo J2 N2 = g_mo J N := by funext r; unfold g_mo; rw [h.lea, h.n (o := 23) (by decide)]
def g_st (J N : Nat → Nat → Int32) (r : Nat) : Int32 := if ¬ N 23 r = -2 ∧ g_deep J N r = -1 then N 29 r else 0
def a_stuck (J N : Nat → Nat → Int32) : Int32 := m_sum (g_st J N) (m_nr J)
theorem ES.stuck {J J2 N N2 : Nat → Nat → Int32} (h : ES J J2 N N2) : a_stuck J2 N2 = a_stuck J N := by
  unfold a_stuck; rw [h.nr]; congr 1; funext r; unfold g_st; rw [h.deep, h.n (o := 23) (by decide), h.n (o := 29) (by decide)]
/-- a door shut, or opened -/
def m_tgl (N : Nat → Nat → Int32) (d : Nat) : Nat → Nat → Int32 := zk_un N 36 (upd (N 36) d (if N 36 d = 0 then 1 else 0))
theorem MI.shut {J N : Nat → Nat → Int32} (hm : MI J N) {d : Nat} {x : Int32} (hd : d < m_nd J) (hx : x = 0 ∨ x = 1) : MI J (zk_un N 36 (upd (N 36) d x)) := by
  obtain ⟨h1, h2, h3, h4, h5, h6, h7⟩ := hm
  refine ⟨h1, h2, fun q hq => ?_, h4, h5, h6, fun q hq hq2 => ?_⟩
  · obtain ⟨a1, a2, a3, a4, a5, a6⟩ := h3 q hq
    refine ⟨a1, a2, a3, a4, a5, ?_⟩
    show upd (N 36) d x q = 0 ∨ upd (N 36) d x q = 1
    unfold upd
    split
    · exact hx
    · exact a6
  · show upd (N 36) d x q = 0
    rw [upd_ne _ _ (by omega)]
    exact h7 q hq hq2
theorem MI.tgl {J N : Nat → Nat → Int32} (hm : MI J N) {d : Nat} (hd : d < m_nd J) : MI J (m_tgl N d) := hm.shut hd (by split <;> simp)
/-- shut and opened again -/
theorem QE.back {J J2 N N2 : Nat → Nat → Int32} {t : Int32} {d : Nat} {x : Int32} (h : QE J J2 (zk_un N 36 (upd (N 36) d x)) N2 t) : QE J (J2) N (zk_un N2 36 (upd (N2 36) d (N 36 d))) t := by
  obtain ⟨⟨h1, h2⟩, h3⟩ := h
  refine ⟨⟨h1, fun o ho => ?_⟩, h3⟩
  unfold zk_un
  split
  · next q =>
    subst q
    rw [h2 36 ho, zk_un_ap, if_pos rfl, upd_upd]
    funext k
    unfold upd
    split
    · next w => rw [w]
    · rfl
  · next q =>
    rw [h2 o ho, zk_un_ap, if_neg q]

