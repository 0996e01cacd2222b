/-! the reference: exits, wetAbove, byRoom -/
def g_ex (J N : Nat → Nat → Int32) (r : Int32) (L : List Nat) : Nat := L.countP (fun e => decide (m_from J N e = r))
def a_ex (J N : Nat → Nat → Int32) (r : Int32) : Nat := g_ex J N r (m_act J N)
theorem ES.ex {J J2 N N2 : Nat → Nat → Int32} (h : ES J J2 N N2) : a_ex J2 N2 = a_ex J N := by
  funext r; unfold a_ex g_ex; rw [h.act]; congr 1; funext e; rw [h.from]
theorem g_ex_le (J N : Nat → Nat → Int32) (r : Int32) (L : List Nat) : g_ex J N r L ≤ L.length := List.countP_le_length
theorem m_act_len (J N : Nat → Nat → Int32) : (m_act J N).length ≤ 100 := m_actN_len J N 100
/-- after collect -/
def cJ (J N : Nat → Nat → Int32) : Nat → Nat → Int32 := zk_uj J 22 35 (nI (m_act J N).length)
def cN (J N : Nat → Nat → Int32) : Nat → Nat → Int32 := zk_un N 52 (m_row (N 52) (m_act J N))
theorem SE.c {J J1 N N1 : Nat → Nat → Int32} (h : SE J J1 N N1) : SE J (cJ J1 N1) N (cN J1 N1) := (h.uj (by decide)).un (by decide)
theorem cES (J N : Nat → Nat → Int32) : ES J (cJ J N) N (cN J N) := ((SE.refl J N).c).es
theorem cRW (J N : Nat → Nat → Int32) : RW (cJ J N) (cN J N) (m_act J N) := ⟨rfl, m_act_len J N, fun _ hk => m_row_at hk⟩
theorem RW.c {J N : Nat → Nat → Int32} (h : RW J N (m_act J N)) : cJ J N = J ∧ cN J N = N := by
  obtain ⟨h1, h2, h3⟩ := h
  refine ⟨?_, ?_⟩
  · unfold cJ; rw [← h1, zk_uj_self]
  · unfold cN
    have e : m_row (N 52) (m_act J N) = N 52 := by
      funext k
      by_cases hk : k < (m_act J N).length
      · rw [m_row_at hk, h3 k hk]
      · unfold m_row; rw [List.getElem?_eq_none (by omega)]
    rw [e, zk_un_self]
def m_wf (N : Nat → Nat → Int32) (r o : Nat) : Int32 := if ¬ N 23 o = -2 ∧ N 23 o = N 23 r - 1 ∧ N 28 o = 0 then m_area N r o else 0
def a_wet (J N : Nat → Nat → Int32) (r : Nat) : Int32 := m_sum (m_wf N r) (m_nr J)
theorem ES.wet {J J2 N N2 : Nat → Nat → Int32} (h : ES J J2 N N2) : a_wet J2 N2 = a_wet J N := by
  funext r; unfold a_wet; rw [h.nr]; congr 1; funext o; unfold m_wf m_area
  rw [h.n (o := 23) (by decide), h.n (o := 24) (by decide), h.n (o := 25) (by decide), h.n (o := 26) (by decide), h.n (o := 27) (by decide), h.n (o := 28) (by decide)]
/-- by how much a room breaks a rule -/
def a_by (J N : Nat → Nat → Int32) (rule r : Nat) : Int32 := match rule with
  | 0 => if g_deep J N r = -1 then N 29 r - N 46 0 else 0
  | 1 => if lea J N r = 100 then 0 else a_far J N r - N 46 1
  | 3 => N 46 3 * N 29 r - N 26 r * N 27 r
  | 4 => if N 28 r = 0 then N 26 r * N 27 r * N 46 4 / 100 - m_light J N (nI r) else 0
  | 5 => i_min (N 26 r) (N 27 r) - N 46 5
  | 6 => if a_ex J N (nI r) < 2 then N 29 r - N 46 6 else 0
  | 7 => g_deep J N r - N 46 7
  | _ => if N 28 r = 3 then a_wet J N r - N 46 9 else 0
theorem ES.light {J J2 N N2 : Nat → Nat → Int32} (h : ES J J2 N N2) : m_light J2 N2 = m_light J N := by
  funext r; unfold m_light; rw [h.nw]; congr 1; funext k; unfold m_lf; rw [h.n (o := 37) (by decide), h.n (o := 40) (by decide)]
theorem ES.by {J J2 N N2 : Nat → Nat → Int32} (h : ES J J2 N N2) : a_by J2 N2 = a_by J N := by
  funext rule r; unfold a_by
  rw [h.deep, h.lea, h.a2, h.light, h.ex, h.wet, h.n (o := 26) (by decide), h.n (o := 27) (by decide), h.n (o := 28) (by decide), h.n (o := 29) (by decide), h.n (o := 46) (by decide)]
theorem g_deep_lt0 (J N : Nat → Nat → Int32) (r : Nat) : (g_deep J N r < 0) = (g_deep J N r = -1) := by
  apply propext
  rcases g_dep_cases J N 21 (nI r) 0 with h | ⟨t, h1, h2, h3⟩
  · rw [show g_deep J N r = -1 from h]; decide
  · rw [show g_deep J N r = nI t from h3]
    exact ⟨fun q => absurd q (nI_nlt (a := t) (b := 0) (Nat.zero_le _) (by omega) : ¬ nI t < nI 0), fun q => absurd q (nI_ne1 (by omega))⟩
theorem n_ge0 (x : Int32) : (0 ≤ x) = ¬ (x < 0) := propext (Int32.not_lt (a := x) (b := 0)).symm

