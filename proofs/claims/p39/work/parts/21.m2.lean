/-! the reference: sums, places, ends of ways -/
def m_lf (N : Nat → Nat → Int32) (r : Int32) (k : Nat) : Int32 := if N 37 k = r then N 40 k else 0
def m_light (J N : Nat → Nat → Int32) (r : Int32) : Int32 := m_sum (m_lf N r) (m_nw J)
def m_cf (a : Nat → Int32) (k : Nat) : Int32 := if a k = -2 then 0 else 1
def m_doorsNow (J N : Nat → Nat → Int32) : Int32 := m_sum (m_cf (N 30)) (m_nd J)
def m_roomsNow (J N : Nat → Nat → Int32) : Int32 := m_sum (m_cf (N 23)) (m_nr J)
def m_stairsNow (J N : Nat → Nat → Int32) : Int32 := m_sum (m_cf (N 42)) (m_ns J)
/-- the exits, by their directions: e = 2 k there, 2 k + 1 back; k a door, or 40 + stairs -/
def m_from (J N : Nat → Nat → Int32) (e : Nat) : Int32 :=
  if e / 2 < 40 then (if m_nd J ≤ e / 2 ∨ N 30 (e / 2) = -2 ∨ ¬ N 36 (e / 2) = 0 then -2 else if e % 2 = 0 then N 30 (e / 2) else if N 31 (e / 2) = -1 then -2 else N 31 (e / 2))
  else (if m_ns J ≤ e / 2 - 40 ∨ N 42 (e / 2 - 40) = -2 then -2 else if e % 2 = 0 then N 42 (e / 2 - 40) else N 43 (e / 2 - 40))
def m_into (N : Nat → Nat → Int32) (e : Nat) : Int32 :=
  if e / 2 < 40 then (if e % 2 = 0 then N 31 (e / 2) else N 30 (e / 2)) else (if e % 2 = 0 then N 43 (e / 2 - 40) else N 42 (e / 2 - 40))
def m_px (N : Nat → Nat → Int32) (e : Nat) : Int32 := if e / 2 < 40 then 2 * N 32 (e / 2) + (if N 35 (e / 2) = 0 then N 34 (e / 2) else 0) else 2 * N 44 (e / 2 - 40)
def m_py (N : Nat → Nat → Int32) (e : Nat) : Int32 := if e / 2 < 40 then 2 * N 33 (e / 2) + (if N 35 (e / 2) = 0 then 0 else N 34 (e / 2)) else 2 * N 45 (e / 2 - 40)
def m_dist (N : Nat → Nat → Int32) (e : Nat) (px py : Int32) : Int32 := i_abs (m_px N e - px) + i_abs (m_py N e - py)

