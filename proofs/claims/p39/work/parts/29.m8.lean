/-! the reference: what is told of rooms and exits -/
def SV (J N : Nat → Nat → Int32) : Prop := RW J N (m_act J N) ∧ (∀ e ∈ m_act J N, N 47 e = nI (LL J N e)) ∧ ∀ j, j < m_nr J → N 48 j = g_lv (lea J N j) ∧ N 49 j = nI (BB J N j).1 ∧ N 50 j = g_deep J N j
theorem SO.sv {J J2 N N2 : Nat → Nat → Int32} (h : SO J J2 N N2) : SV J2 N2 := by
  obtain ⟨-, h2, h3, h4, h5⟩ := h
  have es := h2.es
  unfold SV
  rw [es.act, es.ll, es.nr, es.lea, es.bb, es.deep]
  exact ⟨h3, h4, h5⟩
theorem SO.thr {J J2 N N2 : Nat → Nat → Int32} (h : SO J J2 N N2) : J2 22 0 = J 22 0 := by rw [h.1]; rfl
/-- a question changes no more than the reference's own rows -/
def QE (J J2 N N2 : Nat → Nat → Int32) (t : Int32) : Prop := SE J J2 N N2 ∧ J2 22 0 = t
theorem QE.es {J J2 N N2 : Nat → Nat → Int32} {t : Int32} (h : QE J J2 N N2 t) : ES J J2 N N2 := h.1.es
theorem QE.thr (J N : Nat → Nat → Int32) (t : Int32) : QE J (zk_uj J 22 0 t) N N t := ⟨(SE.refl J N).uj (by decide), by unfold zk_uj; rw [if_pos ⟨rfl, rfl⟩]⟩
theorem QE.so {J J1 J2 N N1 N2 : Nat → Nat → Int32} {t : Int32} (h : QE J J1 N N1 t) (h2 : SO J1 J2 N1 N2) : QE J J2 N N2 t := ⟨h.1.trans h2.2.1, h2.thr.trans h.2⟩
theorem QE.trans {J J1 J2 N N1 N2 : Nat → Nat → Int32} {t t2 : Int32} (h : QE J J1 N N1 t) (h2 : QE J1 J2 N1 N2 t2) : QE J J2 N N2 t2 := ⟨h.1.trans h2.1, h2.2⟩
def MD (J N : Nat → Nat → Int32) (d : Nat) : Prop := d < m_nd J ∧ ¬ N 30 d = -2
def MT (J N : Nat → Nat → Int32) (s : Nat) : Prop := s < m_ns J ∧ ¬ N 42 s = -2
def RD (J N : Nat → Nat → Int32) (r : Int32) (A : Nat → Prop) (B : Prop) : Prop := (∃ j, MR J N j ∧ r = nI j ∧ A j) ∨ (m_isRoom J N r = false ∧ B)
def DRD (J N : Nat → Nat → Int32) (r : Int32) (A : Nat → Prop) (B : Prop) : Prop := (∃ j, MD J N j ∧ r = nI j ∧ A j) ∨ (m_isDoor J N r = false ∧ B)
def TRD (J N : Nat → Nat → Int32) (r : Int32) (A : Nat → Prop) (B : Prop) : Prop := (∃ j, MT J N j ∧ r = nI j ∧ A j) ∨ (m_isStairs J N r = false ∧ B)
theorem m_isRoom_t {J N : Nat → Nat → Int32} {j : Nat} (hms : MS J) (h : MR J N j) : m_isRoom J N (nI j) = true := by
  have := hms.1.2
  have := h.1
  unfold m_isRoom
  rw [hms.1.1, m_isIn_nI (by omega) h.1, n_cl (by omega), decide_eq_true h.2]
  rfl
theorem m_isRoom_f {J N : Nat → Nat → Int32} {r : Int32} (hms : MS J) (h : m_isRoom J N r = true) : ∃ j, MR J N j ∧ r = nI j := by
  have := hms.1.2
  unfold m_isRoom at h
  rw [Bool.and_eq_true, hms.1.1] at h
  obtain ⟨j, hj, rfl⟩ := m_isIn_lt (by omega) h.1
  rw [n_cl (by omega)] at h
  exact ⟨j, ⟨hj, of_decide_eq_true h.2⟩, rfl⟩
theorem m_isDoor_t {J N : Nat → Nat → Int32} {j : Nat} (hms : MS J) (h : MD J N j) : m_isDoor J N (nI j) = true := by
  have := hms.2.1.2
  have := h.1
  unfold m_isDoor
  rw [hms.2.1.1, m_isIn_nI (by omega) h.1, n_cl (by omega), decide_eq_true h.2]
  rfl
theorem m_isDoor_f {J N : Nat → Nat → Int32} {r : Int32} (hms : MS J) (h : m_isDoor J N r = true) : ∃ j, MD J N j ∧ r = nI j := by
  have := hms.2.1.2
  unfold m_isDoor at h
  rw [Bool.and_eq_true, hms.2.1.1] at h
  obtain ⟨j, hj, rfl⟩ := m_isIn_lt (by omega) h.1
  rw [n_cl (by omega)] at h
  exact ⟨j, ⟨hj, of_decide_eq_true h.2⟩, rfl⟩
theorem m_isStairs_t {J N : Nat → Nat → Int32} {j : Nat} (hms : MS J) (h : MT J N j) : m_isStairs J N (nI j) = true := by
  have := hms.2.2.2.2
  have := h.1
  unfold m_isStairs
  rw [hms.2.2.2.1, m_isIn_nI (by omega) h.1, n_cl (by omega), decide_eq_true h.2]
  rfl
theorem m_isStairs_f {J N : Nat → Nat → Int32} {r : Int32} (hms : MS J) (h : m_isStairs J N r = true) : ∃ j, MT J N j ∧ r = nI j := by
  have := hms.2.2.2.2
  unfold m_isStairs at h
  rw [Bool.and_eq_true, hms.2.2.2.1] at h
  obtain ⟨j, hj, rfl⟩ := m_isIn_lt (by omega) h.1
  rw [n_cl (by omega)] at h
  exact ⟨j, ⟨hj, of_decide_eq_true h.2⟩, rfl⟩
theorem RD.mk {J N : Nat → Nat → Int32} {r : Int32} {A : Nat → Prop} {B : Prop} (hms : MS J) (h1 : ∀ j, MR J N j → r = nI j → A j) (h2 : m_isRoom J N r = false → B) : RD J N r A B := by
  cases h : m_isRoom J N r with
  | false => exact Or.inr ⟨h, h2 h⟩
  | true => obtain ⟨j, q, e⟩ := m_isRoom_f hms h; exact Or.inl ⟨j, q, e, h1 j q e⟩
theorem DRD.mk {J N : Nat → Nat → Int32} {r : Int32} {A : Nat → Prop} {B : Prop} (hms : MS J) (h1 : ∀ j, MD J N j → r = nI j → A j) (h2 : m_isDoor J N r = false → B) : DRD J N r A B := by
  cases h : m_isDoor J N r with
  | false => exact Or.inr ⟨h, h2 h⟩
  | true => obtain ⟨j, q, e⟩ := m_isDoor_f hms h; exact Or.inl ⟨j, q, e, h1 j q e⟩
theorem TRD.mk {J N : Nat → Nat → Int32} {r : Int32} {A : Nat → Prop} {B : Prop} (hms : MS J) (h1 : ∀ j, MT J N j → r = nI j → A j) (h2 : m_isStairs J N r = false → B) : TRD J N r A B := by
  cases h : m_isStairs J N r with
  | false => exact Or.inr ⟨h, h2 h⟩
  | true => obtain ⟨j, q, e⟩ := m_isStairs_f hms h; exact Or.inl ⟨j, q, e, h1 j q e⟩
theorem m_isRoom_thr (J N : Nat → Nat → Int32) (t r : Int32) : m_isRoom (zk_uj J 22 0 t) N r = m_isRoom J N r := rfl
theorem m_isDoor_thr (J N : Nat → Nat → Int32) (t r : Int32) : m_isDoor (zk_uj J 22 0 t) N r = m_isDoor J N r := rfl
theorem m_isStairs_thr (J N : Nat → Nat → Int32) (t r : Int32) : m_isStairs (zk_uj J 22 0 t) N r = m_isStairs J N r := rfl
theorem MS.thr {J : Nat → Nat → Int32} (h : MS J) (t : Int32) : MS (zk_uj J 22 0 t) := h
theorem MI.thr {J N : Nat → Nat → Int32} (h : MI J N) (t : Int32) : MI (zk_uj J 22 0 t) N := h
/-- the answers -/
def a_isLost (J N : Nat → Nat → Int32) (j : Nat) : Bool := decide (lea J N j = 100)
def g_cor (J N : Nat → Nat → Int32) (j c : Nat) : Nat := g_least J N (LL J N) (nI j) (-1) (2 * ((N 24 j).toNatClampNeg + c % 2 * (N 26 j).toNatClampNeg)) (2 * ((N 25 j).toNatClampNeg + c / 2 * (N 27 j).toNatClampNeg))
def g_far (J N : Nat → Nat → Int32) (j : Nat) : Nat → Nat
  | 0 => 0
  | c + 1 => max (g_far J N j c) (g_cor J N j c)
def a_far (J N : Nat → Nat → Int32) (j : Nat) : Int32 := if lea J N j = 100 then -1 else nI (g_far J N j 4)
def a_leav (J N : Nat → Nat → Int32) (j : Nat) : Int32 := if lea J N j = 100 then -1 else if lea J N j / 2 < 40 then nI (lea J N j / 2) else nI (60 + lea J N j / 2)
def a_mid (J N : Nat → Nat → Int32) (j : Nat) : Int32 := if lea J N j = 100 then -1 else nI (BB J N j).1
def a_way (J N : Nat → Nat → Int32) (e : Nat) : Int32 := if m_from J N e = -2 ∨ LL J N e = INF then -1 else nI (LL J N e)
theorem ES.a1 {J J2 N N2 : Nat → Nat → Int32} (h : ES J J2 N N2) : a_isLost J2 N2 = a_isLost J N := by funext j; unfold a_isLost; rw [h.lea]
theorem ES.cor {J J2 N N2 : Nat → Nat → Int32} (h : ES J J2 N N2) (j c : Nat) : g_cor J2 N2 j c = g_cor J N j c := by
  unfold g_cor; rw [h.least, h.ll, h.n (o := 24) (by decide), h.n (o := 25) (by decide), h.n (o := 26) (by decide), h.n (o := 27) (by decide)]
theorem ES.far {J J2 N N2 : Nat → Nat → Int32} (h : ES J J2 N N2) (j : Nat) : ∀ c, g_far J2 N2 j c = g_far J N j c
  | 0 => rfl
  | c + 1 => by rw [g_far, g_far, h.far j c, h.cor]
theorem ES.a2 {J J2 N N2 : Nat → Nat → Int32} (h : ES J J2 N N2) : a_far J2 N2 = a_far J N := by funext j; unfold a_far; rw [h.lea, h.far]
theorem ES.a3 {J J2 N N2 : Nat → Nat → Int32} (h : ES J J2 N N2) : a_leav J2 N2 = a_leav J N := by funext j; unfold a_leav; rw [h.lea]
theorem ES.a4 {J J2 N N2 : Nat → Nat → Int32} (h : ES J J2 N N2) : a_mid J2 N2 = a_mid J N := by funext j; unfold a_mid; rw [h.lea, h.bb]
theorem ES.a5 {J J2 N N2 : Nat → Nat → Int32} (h : ES J J2 N N2) : a_way J2 N2 = a_way J N := by funext e; unfold a_way; rw [h.from, h.ll]

