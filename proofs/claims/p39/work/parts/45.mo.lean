/-! the reference: digest -/
def mx (d : Int64) (v : Int32) : Int64 := d * 31 + v.toInt64
def dg0 (J N : Nat → Nat → Int32) : Int64 := mx (mx (mx (mx (mx 2663 (m_roomsNow J N)) (m_doorsNow J N)) (m_stairsNow J N)) (a_time J N (-1) 0)) (a_left J N 3)
def dgr (J N : Nat → Nat → Int32) (r : Nat) (d : Int64) : Int64 := mx (mx (mx (mx (mx (mx (mx (mx d (nI r)) (zk_b (a_isLost J N r))) (a_far J N r)) (a_leav J N r)) (a_mid J N r)) (g_deep J N r)) (a_inR J N 2 r)) (a_most J N r)
def dgR (J N : Nat → Nat → Int32) (d : Int64) : Nat → Int64
  | 0 => d
  | r + 1 => if N 23 r = -2 then dgR J N d r else dgr J N r (dgR J N d r)
def dgd (J N : Nat → Nat → Int32) (k : Nat) (d : Int64) : Int64 := mx (mx (mx (mx d (nI k)) (a_way J N (2 * k))) (a_way J N (2 * k + 1))) (a_load J N k)
def dgD (J N : Nat → Nat → Int32) (d : Int64) : Nat → Int64
  | 0 => d
  | k + 1 => if N 30 k = -2 then dgD J N d k else dgd J N k (dgD J N d k)
def dgs (J N : Nat → Nat → Int32) (s : Nat) (d : Int64) : Int64 := mx (mx d (nI s)) (a_load J N (40 + s))
def dgS (J N : Nat → Nat → Int32) (d : Int64) : Nat → Int64
  | 0 => d
  | k + 1 => if N 42 k = -2 then dgS J N d k else dgs J N k (dgS J N d k)
def dgF (L : zk_F3) (d : Int64) : Nat → Int64
  | 0 => d
  | k + 1 => mx (mx (mx (dgF L d k) (fqL L k 0)) (fqL L k 1)) (fqL L k 2)
def dg3 (J N : Nat → Nat → Int32) : Int64 := dgS J N (dgD J N (dgR J N (dg0 J N) (m_nr J)) (m_nd J)) (m_ns J)
def a_dig (J N : Nat → Nat → Int32) : Int64 := dgF (a_fl J N 10) (mx (dg3 J N) (nI (a_faults J N))) (a_faults J N)
theorem ES.rn {J J2 N N2 : Nat → Nat → Int32} (h : ES J J2 N N2) : m_roomsNow J2 N2 = m_roomsNow J N := by unfold m_roomsNow; rw [h.nr, h.n (o := 23) (by decide)]
theorem ES.dn {J J2 N N2 : Nat → Nat → Int32} (h : ES J J2 N N2) : m_doorsNow J2 N2 = m_doorsNow J N := by unfold m_doorsNow; rw [h.nd, h.n (o := 30) (by decide)]
theorem ES.sn {J J2 N N2 : Nat → Nat → Int32} (h : ES J J2 N N2) : m_stairsNow J2 N2 = m_stairsNow J N := by unfold m_stairsNow; rw [h.ns, h.n (o := 42) (by decide)]
theorem ES.x1 {J J2 N N2 : Nat → Nat → Int32} (h : ES J J2 N N2) (r : Nat) (d : Int64) : dgr J2 N2 r d = dgr J N r d := by unfold dgr; rw [h.a1, h.a2, h.a3, h.a4, h.deep, h.a8, h.most]
theorem ES.x2 {J J2 N N2 : Nat → Nat → Int32} (h : ES J J2 N N2) (d : Int64) : ∀ r, dgR J2 N2 d r = dgR J N d r
  | 0 => rfl
  | r + 1 => by rw [dgR, dgR, h.x2 d r, h.x1, h.n (o := 23) (by decide)]
theorem ES.x3 {J J2 N N2 : Nat → Nat → Int32} (h : ES J J2 N N2) (d : Int64) : ∀ r, dgD J2 N2 d r = dgD J N d r
  | 0 => rfl
  | r + 1 => by rw [dgD, dgD, h.x3 d r, dgd, dgd, h.a5, h.a6, h.n (o := 30) (by decide)]
theorem ES.x4 {J J2 N N2 : Nat → Nat → Int32} (h : ES J J2 N N2) (d : Int64) : ∀ r, dgS J2 N2 d r = dgS J N d r
  | 0 => rfl
  | r + 1 => by rw [dgS, dgS, h.x4 d r, dgs, dgs, h.a6, h.n (o := 42) (by decide)]
theorem ES.dig {J J2 N N2 : Nat → Nat → Int32} (h : ES J J2 N N2) : a_dig J2 N2 = a_dig J N := by
  unfold a_dig dg3 dg0
  rw [h.fl, h.x4, h.x3, h.x2, h.rn, h.dn, h.sn, h.a7, h.a9, h.nr, h.nd, h.ns, h.faults]
theorem mx_c : (2663 : Int64) * 31 = 82553 := by decide

