/-! the class's objects beside the reference's rows -/
def OKA (E : zk_E) (sz a : Nat) : Prop := E.1 + 28 ≤ a ∧ a < sz
def xrm (N : Nat → Nat → Int32) (r : Nat) : va_E := cR (nI r) (N 23 r) (N 24 r) (N 25 r) (N 26 r) (N 27 r) (N 28 r) (N 29 r)
def rq (Q : Nat → Nat → Option Nat) (x : Int32) : Option Nat := if x = -1 then none else Q 2 x.toNatClampNeg
def xdr (N : Nat → Nat → Int32) (Q : Nat → Nat → Option Nat) (fl : Nat → Int32) (d p : Nat) : va_E := cX 1 (rq Q (N 30 d)) (rq Q (N 31 d)) (m_px N (2 * d)) (m_py N (2 * d)) 0 (fl d) (N 36 d) [.ref p]
def xdp (N : Nat → Nat → Int32) (d : Nat) : va_E := cP (N 23 (N 30 d).toNatClampNeg) (N 35 d) (p_line (N 35 d) (N 32 d) (N 33 d)) (p_start (N 35 d) (N 32 d) (N 33 d)) (N 34 d)
def xwp (N : Nat → Nat → Int32) (k : Nat) : va_E := cP (N 23 (N 37 k).toNatClampNeg) (N 41 k) (p_line (N 41 k) (N 38 k) (N 39 k)) (p_start (N 41 k) (N 38 k) (N 39 k)) (N 40 k)
def xst (N : Nat → Nat → Int32) (Q : Nat → Nat → Option Nat) (s : Nat) : va_E := cX 6 (rq Q (N 42 s)) (rq Q (N 43 s)) (2 * N 44 s) (2 * N 45 s) 20 3 0 []
def MW (J N : Nat → Nat → Int32) (k : Nat) : Prop := k < m_nw J ∧ ¬ N 37 k = -2
/-- how many come through a door in a tick -/
def fl0 (N : Nat → Nat → Int32) : Nat → Int32 := fun d => N 34 d * 2
def XA (J1 N1 J N : Nat → Nat → Int32) : Prop := J1 1 5 = J 22 1 ∧ J1 1 6 = J 22 9 ∧ J1 1 7 = J 22 17 ∧ J1 1 8 = J 22 23 ∧ ∀ i, i < 10 → N1 6 i = N 46 i
def XB (E : zk_E) (sz : Nat) (Q : Nat → Nat → Option Nat) (O : zk_Hp) (J N : Nat → Nat → Int32) : Prop := ∀ r, r < 20 → (∃ a, MR J N r ∧ Q 2 r = some a ∧ OKA E sz a ∧ O a = some (xrm N r)) ∨ (¬ MR J N r ∧ Q 2 r = none)
def XC (E : zk_E) (sz : Nat) (Q : Nat → Nat → Option Nat) (O : zk_Hp) (J N : Nat → Nat → Int32) (fl : Nat → Int32) : Prop := ∀ d, d < 40 → (∃ a p, MD J N d ∧ Q 3 d = some a ∧ OKA E sz a ∧ OKA E sz p ∧ O a = some (xdr N Q fl d p) ∧ O p = some (xdp N d)) ∨ (¬ MD J N d ∧ Q 3 d = none)
def XD (E : zk_E) (sz : Nat) (Q : Nat → Nat → Option Nat) (O : zk_Hp) (J N : Nat → Nat → Int32) : Prop := ∀ k, k < 40 → (∃ a p b, MW J N k ∧ Q 4 k = some a ∧ OKA E sz a ∧ OKA E sz p ∧ Q 2 (N 37 k).toNatClampNeg = some b ∧ O a = some (cW b p) ∧ O p = some (xwp N k)) ∨ (¬ MW J N k ∧ Q 4 k = none)
def XT (E : zk_E) (sz : Nat) (Q : Nat → Nat → Option Nat) (O : zk_Hp) (J N : Nat → Nat → Int32) : Prop := ∀ s, s < 10 → (∃ a, MT J N s ∧ Q 5 s = some a ∧ OKA E sz a ∧ O a = some (xst N Q s)) ∨ (¬ MT J N s ∧ Q 5 s = none)
def XG (Q : Nat → Nat → Option Nat) : Prop := ∀ d d2 a, d < 40 → d2 < 40 → Q 3 d = some a → Q 3 d2 = some a → d = d2
def XR (E : zk_E) (sz : Nat) (σ : zk_S) (J N : Nat → Nat → Int32) (fl : Nat → Int32) : Prop := XA σ.1 σ.2.1 J N ∧ XB E sz σ.2.2.1 σ.2.2.2.1 J N ∧ XC E sz σ.2.2.1 σ.2.2.2.1 J N fl ∧ XD E sz σ.2.2.1 σ.2.2.2.1 J N ∧ XT E sz σ.2.2.1 σ.2.2.2.1 J N ∧ XG σ.2.2.1
section XRS
variable {E : zk_E} {sz : Nat} {J N J1 N1 : Nat → Nat → Int32} {Q : Nat → Nat → Option Nat} {O : zk_Hp} {U : zk_U} {fl : Nat → Int32}
theorem XB.room (h : XB E sz Q O J N) (hmi : MI J N) {r : Nat} (hr : MR J N r) : ∃ a, Q 2 r = some a ∧ OKA E sz a ∧ O a = some (xrm N r) := by
  rcases h r (hr.lt hmi) with ⟨a, -, h1, h2, h3⟩ | ⟨h1, -⟩
  · exact ⟨a, h1, h2, h3⟩
  · exact absurd hr h1
theorem XB.back (h : XB E sz Q O J N) {r a : Nat} (hr : r < 20) (hq : Q 2 r = some a) : MR J N r ∧ OKA E sz a ∧ O a = some (xrm N r) := by
  rcases h r hr with ⟨b, h0, h1, h2, h3⟩ | ⟨-, h1⟩
  · rw [hq] at h1
    cases h1
    exact ⟨h0, h2, h3⟩
  · rw [hq] at h1; cases h1
theorem XB.inj (h : XB E sz Q O J N) {r q a : Nat} (hr : r < 20) (hq : q < 20) (h1 : Q 2 r = some a) (h2 : Q 2 q = some a) : r = q := by
  have e1 := (h.back hr h1).2.2
  have e2 := (h.back hq h2).2.2
  rw [e1] at e2
  have : fI (some (xrm N r)) 0 = fI (some (xrm N q)) 0 := by rw [e2]
  have e3 : nI r = nI q := this
  rwa [n_inj (by omega) (by omega)] at e3
theorem XC.door (h : XC E sz Q O J N fl) (hms : MS J) {d : Nat} (hd : MD J N d) : ∃ a p, Q 3 d = some a ∧ OKA E sz a ∧ OKA E sz p ∧ O a = some (xdr N Q fl d p) ∧ O p = some (xdp N d) := by
  rcases h d (hd.lt hms) with ⟨a, p, -, h1⟩ | ⟨h1, -⟩
  · exact ⟨a, p, h1⟩
  · exact absurd hd h1
theorem XC.back (h : XC E sz Q O J N fl) {d a : Nat} (hd : d < 40) (hq : Q 3 d = some a) : MD J N d ∧ OKA E sz a ∧ ∃ p, OKA E sz p ∧ O a = some (xdr N Q fl d p) ∧ O p = some (xdp N d) := by
  rcases h d hd with ⟨b, p, h0, h1, h2, h3, h4, h5⟩ | ⟨-, h1⟩
  · rw [hq] at h1
    cases h1
    exact ⟨h0, h2, p, h3, h4, h5⟩
  · rw [hq] at h1; cases h1
theorem XT.back (h : XT E sz Q O J N) {d a : Nat} (hd : d < 10) (hq : Q 5 d = some a) : MT J N d ∧ OKA E sz a ∧ O a = some (xst N Q d) := by
  rcases h d hd with ⟨b, h0, h1, h2, h3⟩ | ⟨-, h1⟩
  · rw [hq] at h1
    cases h1
    exact ⟨h0, h2, h3⟩
  · rw [hq] at h1; cases h1
theorem XD.back (h : XD E sz Q O J N) {k a : Nat} (hk : k < 40) (hq : Q 4 k = some a) : MW J N k ∧ OKA E sz a ∧ ∃ p b, OKA E sz p ∧ Q 2 (N 37 k).toNatClampNeg = some b ∧ O a = some (cW b p) ∧ O p = some (xwp N k) := by
  rcases h k hk with ⟨c, p, b, h0, h1, h2, h3, h4, h5, h6⟩ | ⟨-, h1⟩
  · rw [hq] at h1
    cases h1
    exact ⟨h0, h2, p, b, h3, h4, h5, h6⟩
  · rw [hq] at h1; cases h1
theorem isR_xrm (N : Nat → Nat → Int32) (r : Nat) : isR (some (xrm N r)) := ⟨_, _, _, _, _, _, _, _, rfl⟩
theorem XB.rok (h : XB E sz Q O J N) : ROK E Q O := fun r hr a hq => by
  obtain ⟨-, h1, h2⟩ := h.back hr hq
  exact ⟨h1.1, by rw [h2]; exact isR_xrm N r⟩
theorem XC.dok (h : XC E sz Q O J N fl) : DOK E Q O := fun d hd a hq => by
  obtain ⟨-, h1, p, h2, h3, h4⟩ := h.back hd hq
  exact ⟨h1.1, _, _, _, _, _, _, _, p, h3, h2.1, by rw [h4]; exact ⟨_, _, _, _, _, rfl⟩⟩
theorem XD.wok (h : XD E sz Q O J N) (hms : MS J) : WOK E Q O := fun d hd a hq => by
  have := (h.back hd hq).1.1
  have := hms.2.2.1.2
  omega
theorem XR.xok {σ : zk_S} (h : XR E sz σ J N fl) : XOK E σ.2.2.1 σ.2.2.2.1 := fun i hi a hq => by
  unfold xat at hq
  by_cases k : i < 40
  · rw [if_pos k] at hq
    obtain ⟨-, h1, p, h2, h3, h4⟩ := h.2.2.1.back k hq
    exact ⟨h1.1, by rw [h3]; exact ⟨1, _, _, _, _, _, _, _, _, Or.inl rfl, rfl⟩⟩
  · rw [if_neg k] at hq
    obtain ⟨-, h1, h2⟩ := h.2.2.2.2.1.back (by omega) hq
    exact ⟨h1.1, by rw [h2]; exact ⟨6, _, _, _, _, _, _, _, _, Or.inr rfl, rfl⟩⟩
/-- a room's reference, by the number that is told of it -/
theorem XB.rqe (h : XB E sz Q O J N) (hmi : MI J N) {x : Int32} {j b : Nat} (hx : x = -1 ∨ ∃ q, MR J N q ∧ x = nI q) (hj : MR J N j) (hb : Q 2 j = some b) : (rq Q x = some b) = (x = nI j) := by
  have hj20 := hj.lt hmi
  apply propext
  unfold rq
  rcases hx with rfl | ⟨q, hq, rfl⟩
  · rw [if_pos rfl]
    exact ⟨fun w => absurd w (by simp), fun w => absurd w.symm (nI_ne1 (by omega))⟩
  · have hq20 := hq.lt hmi
    rw [if_neg (nI_ne1 (by omega)), n_cl (by omega), n_inj (by omega) (by omega)]
    exact ⟨fun w => h.inj hq20 hj20 w hb, fun w => by rw [w]; exact hb⟩
theorem m_sum_skip {f : Nat → Int32} {n : Nat} : ∀ k, (∀ i, n ≤ i → i < n + k → f i = 0) → m_sum f (n + k) = m_sum f n
  | 0, _ => rfl
  | k + 1, h => by rw [← Nat.add_assoc, m_sum, m_sum_skip k (fun i a b => h i a (by omega)), h (n + k) (by omega) (by omega), Int32.add_zero]
theorem cntB_skip {p : Nat → Bool} {n : Nat} : ∀ k, (∀ i, n ≤ i → i < n + k → p i = false) → cntB p (n + k) = cntB p n
  | 0, _ => rfl
  | k + 1, h => by rw [← Nat.add_assoc, cntB, cntB_skip k (fun i a b => h i a (by omega)), h (n + k) (by omega) (by omega)]; rfl
theorem cntB_cong {p q : Nat → Bool} : ∀ {n}, (∀ i, i < n → p i = q i) → cntB p n = cntB q n
  | 0, _ => rfl
  | n + 1, h => by rw [cntB, cntB, cntB_cong (fun i hi => h i (by omega)), h n (by omega)]
theorem m_ex_cong {p q : Nat → Bool} : ∀ {n}, (∀ i, i < n → p i = q i) → m_ex p n = m_ex q n
  | 0, _ => rfl
  | n + 1, h => by rw [m_ex, m_ex, m_ex_cong (fun i hi => h i (by omega)), h n (by omega)]
theorem m_ex_skip {p : Nat → Bool} {n : Nat} : ∀ k, (∀ i, n ≤ i → i < n + k → p i = false) → m_ex p (n + k) = m_ex p n
  | 0, _ => rfl
  | k + 1, h => by rw [← Nat.add_assoc, m_ex, m_ex_skip k (fun i a b => h i a (by omega)), h (n + k) (by omega) (by omega), Bool.or_false]
theorem m_sum_cnt (a : Nat → Int32) : ∀ n, m_sum (m_cf a) n = nI (cntB (fun k => decide (¬ a k = -2)) n)
  | 0 => rfl
  | n + 1 => by
    rw [m_sum, cntB, m_sum_cnt a n, m_cf]
    by_cases h : a n = -2
    · rw [if_pos h, decide_eq_false (not_not_intro h), if_neg (by decide), Int32.add_zero, Nat.add_zero]
    · rw [if_neg h, decide_eq_true h, if_pos rfl, n_succ]
theorem XC.cnt (h : XC E sz Q O J N fl) (hms : MS J) : nI (cntB (x_is Q 0) 40) = m_doorsNow J N := by
  unfold m_doorsNow
  rw [m_sum_cnt]
  have hd40 := hms.2.1.2
  congr 1
  rw [show 40 = m_nd J + (40 - m_nd J) by omega, cntB_skip (p := x_is Q 0)]
  · refine cntB_cong (fun i hi => ?_)
    unfold x_is xat
    rw [Nat.zero_add, if_pos (show i < 40 by omega)]
    rcases h i (by omega) with ⟨a, p, h0, h1, -⟩ | ⟨h0, h1⟩
    · rw [h1, decide_eq_true h0.2]; rfl
    · rw [h1, decide_eq_false (fun w => h0 ⟨hi, w⟩)]; rfl
  · intro i h1 h2
    unfold x_is xat
    rw [Nat.zero_add, if_pos (show i < 40 by omega)]
    rcases h i (by omega) with ⟨a, p, h0, -⟩ | ⟨-, h4⟩
    · exact absurd h0.1 (by omega)
    · rw [h4]; rfl
theorem XT.cnt (h : XT E sz Q O J N) (hms : MS J) : nI (cntB (x_is Q 40) 10) = m_stairsNow J N := by
  unfold m_stairsNow
  rw [m_sum_cnt]
  have hd40 := hms.2.2.2.2
  congr 1
  rw [show 10 = m_ns J + (10 - m_ns J) by omega, cntB_skip (p := x_is Q 40)]
  · refine cntB_cong (fun i hi => ?_)
    unfold x_is xat
    rw [if_neg (show ¬ 40 + i < 40 by omega), show 40 + i - 40 = i by omega]
    rcases h i (by omega) with ⟨a, h0, h1, -⟩ | ⟨h0, h1⟩
    · rw [h1, decide_eq_true h0.2]; rfl
    · rw [h1, decide_eq_false (fun w => h0 ⟨hi, w⟩)]; rfl
  · intro i h1 h2
    unfold x_is xat
    rw [if_neg (show ¬ 40 + i < 40 by omega), show 40 + i - 40 = i by omega]
    rcases h i (by omega) with ⟨a, h0, -⟩ | ⟨-, h4⟩
    · exact absurd h0.1 (by omega)
    · rw [h4]; rfl
theorem XB.cnt (h : XB E sz Q O J N) (hms : MS J) : nI (cntB (fun r => (Q 2 r).isSome) 20) = m_roomsNow J N := by
  unfold m_roomsNow
  rw [m_sum_cnt]
  have hd40 := hms.1.2
  congr 1
  rw [show 20 = m_nr J + (20 - m_nr J) by omega, cntB_skip (p := fun r => (Q 2 r).isSome)]
  · refine cntB_cong (fun i hi => ?_)
    rcases h i (by omega) with ⟨a, h0, h1, -⟩ | ⟨h0, h1⟩
    · rw [h1, decide_eq_true h0.2]; rfl
    · rw [h1, decide_eq_false (fun w => h0 ⟨hi, w⟩)]; rfl
  · intro i h1 h2
    rcases h i (by omega) with ⟨a, h0, -⟩ | ⟨-, h4⟩
    · exact absurd h0.1 (by omega)
    · rw [h4]; rfl
end XRS


