/-! the reference's leaves -/
def m_thr (σ : zk_S) (n : Int32) : zk_S := (zk_uj σ.1 22 0 n, σ.2.1, σ.2.2.1, σ.2.2.2.1, σ.2.2.2.2)
def m_isRoom (J N : Nat → Nat → Int32) (r : Int32) : Bool := m_isIn r 0 (J 22 1 - 1) && decide (¬ N 23 r.toNatClampNeg = -2)
def m_isDoor (J N : Nat → Nat → Int32) (r : Int32) : Bool := m_isIn r 0 (J 22 9 - 1) && decide (¬ N 30 r.toNatClampNeg = -2)
def m_isStairs (J N : Nat → Nat → Int32) (r : Int32) : Bool := m_isIn r 0 (J 22 23 - 1) && decide (¬ N 42 r.toNatClampNeg = -2)
/-- how much two rooms have in common -/
def u_common (x w y h x2 w2 y2 h2 : Int32) : Int32 := if 0 < i_min (x + w) (x2 + w2) - i_max x x2 ∧ 0 < i_min (y + h) (y2 + h2) - i_max y y2 then (i_min (x + w) (x2 + w2) - i_max x x2) * (i_min (y + h) (y2 + h2) - i_max y y2) else 0
def m_area (N : Nat → Nat → Int32) (a b : Nat) : Int32 := u_common (N 24 a) (N 26 a) (N 25 a) (N 27 a) (N 24 b) (N 26 b) (N 25 b) (N 27 b)
def m_shared (ox oy ou ow tx ty tu tw : Int32) : Int32 := if ¬ ou = tu ∨ (if ou = 0 then ¬ oy = ty else ¬ ox = tx) then 0 else (l_max 0 (l_min ((if ou = 0 then ox else oy).toInt64 + ow.toInt64) ((if ou = 0 then tx else ty).toInt64 + tw.toInt64) - l_max (if ou = 0 then ox else oy).toInt64 (if ou = 0 then tx else ty).toInt64)).toInt32
def m_onSides (N : Nat → Nat → Int32) (r : Nat) (ix iy up iw : Int32) : Int32 := m_shared ix iy up iw (N 24 r) (N 25 r) up (if up = 0 then N 26 r else N 27 r) + m_shared ix iy up iw (if up = 0 then N 24 r else N 24 r + N 26 r) (if up = 0 then N 25 r + N 27 r else N 25 r) up (if up = 0 then N 26 r else N 27 r)

