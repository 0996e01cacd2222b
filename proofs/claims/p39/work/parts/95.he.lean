/-! the House: rooms are laid -/
theorem u_com_iff {x w y h x2 w2 y2 h2 : Nat} (b1 : x ≤ 1000) (b2 : w ≤ 1000) (b3 : y ≤ 1000) (b4 : h ≤ 1000) (b5 : x2 ≤ 1000) (b6 : w2 ≤ 1000) (b7 : y2 ≤ 1000) (b8 : h2 ≤ 1000) : (0 < u_common (nI x) (nI w) (nI y) (nI h) (nI x2) (nI w2) (nI y2) (nI h2)) ↔ ∃ k i, g_u x w y h k i ∧ g_u x2 w2 y2 h2 k i := by
  have e : ∀ n : Nat, n ≤ 3000 → (nI n).toInt = n := fun n hn => nI_toInt (by omega)
  have dx : (i_min (nI x + nI w) (nI x2 + nI w2) - i_max (nI x) (nI x2)).toInt = min ((x : Int) + w) (x2 + w2) - max (x : Int) x2 := by
    rw [n_subI (by rw [i_min_I, i_max_I, n_add, n_add, e _ (by omega), e _ (by omega), e _ (by omega), e _ (by omega)]; omega) (by rw [i_min_I, i_max_I, n_add, n_add, e _ (by omega), e _ (by omega), e _ (by omega), e _ (by omega)]; omega), i_min_I, i_max_I, n_add, n_add, e _ (by omega), e _ (by omega), e _ (by omega), e _ (by omega)]
    omega
  have dy : (i_min (nI y + nI h) (nI y2 + nI h2) - i_max (nI y) (nI y2)).toInt = min ((y : Int) + h) (y2 + h2) - max (y : Int) y2 := by
    rw [n_subI (by rw [i_min_I, i_max_I, n_add, n_add, e _ (by omega), e _ (by omega), e _ (by omega), e _ (by omega)]; omega) (by rw [i_min_I, i_max_I, n_add, n_add, e _ (by omega), e _ (by omega), e _ (by omega), e _ (by omega)]; omega), i_min_I, i_max_I, n_add, n_add, e _ (by omega), e _ (by omega), e _ (by omega), e _ (by omega)]
    omega
  unfold u_common
  generalize i_min (nI x + nI w) (nI x2 + nI w2) - i_max (nI x) (nI x2) = A at *
  generalize i_min (nI y + nI h) (nI y2 + nI h2) - i_max (nI y) (nI y2) = B at *
  have z0 : (0 : Int32).toInt = 0 := rfl
  constructor
  · intro q
    by_cases c : 0 < A ∧ 0 < B
    · obtain ⟨c1, c2⟩ := c
      rw [i32_lt, z0] at c1 c2
      exact ⟨max x x2, max y y2, ⟨by omega, by omega, by omega, by omega⟩, by omega, by omega, by omega, by omega⟩
    · rw [if_neg c] at q
      exact absurd q (by decide)
  · rintro ⟨k, i, ⟨q1, q2, q3, q4⟩, q5, q6, q7, q8⟩
    have c1 : 0 < A.toInt := by omega
    have c2 : 0 < B.toInt := by omega
    rw [if_pos ⟨by rw [i32_lt, z0]; exact c1, by rw [i32_lt, z0]; exact c2⟩, i32_lt, z0]
    have p1 : 0 < A.toInt * B.toInt := Int.mul_pos c1 c2
    have p2 : A.toInt * B.toInt ≤ 1000 * 1000 := Int.mul_le_mul (by omega) (by omega) (by omega) (by omega)
    rw [n_mulI (by omega) (by omega)]
    exact p1
section XRO
variable {E : zk_E} {sz : Nat} {J N J1 N1 : Nat → Nat → Int32} {Q : Nat → Nat → Option Nat} {O : zk_Hp} {U : zk_U} {fl : Nat → Int32}
/-- what keeps the objects keeps the class's picture -/
theorem XR.ob (h : XR E sz (J1, N1, Q, O, U) J N fl) {O2 : zk_Hp} (hO : ∀ q x, O q = some (.inr x) → O2 q = O q) : XR E sz (J1, N1, Q, O2, U) J N fl := by
  obtain ⟨h1, h2, h3, h4, h5, h6⟩ := h
  refine ⟨h1, fun r hr => ?_, fun d hd => ?_, fun k hk => ?_, fun s hs => ?_, h6⟩
  · rcases h2 r hr with ⟨a, a0, a1, a2, a3⟩ | w
    · exact Or.inl ⟨a, a0, a1, a2, (hO a _ a3).trans a3⟩
    · exact Or.inr w
  · rcases h3 d hd with ⟨a, p, a0, a1, a2, a3, a4, a5⟩ | w
    · exact Or.inl ⟨a, p, a0, a1, a2, a3, (hO a _ a4).trans a4, (hO p _ a5).trans a5⟩
    · exact Or.inr w
  · rcases h4 k hk with ⟨a, p, b, a0, a1, a2, a3, a4, a5, a6⟩ | w
    · exact Or.inl ⟨a, p, b, a0, a1, a2, a3, a4, (hO a _ a5).trans a5, (hO p _ a6).trans a6⟩
    · exact Or.inr w
  · rcases h5 s hs with ⟨a, a0, a1, a2, a3⟩ | w
    · exact Or.inl ⟨a, a0, a1, a2, (hO a _ a3).trans a3⟩
    · exact Or.inr w
theorem XR.q23 (f : Nat → Option Nat) (h : XR E sz (J1, N1, Q, O, U) J N fl) : XR E sz (J1, N1, zk_un Q 23 f, O, U) J N fl := h
theorem XR.q24 (f : Nat → Option Nat) (h : XR E sz (J1, N1, Q, O, U) J N fl) : XR E sz (J1, N1, zk_un Q 24 f, O, U) J N fl := h
theorem XR.q26 (f : Nat → Option Nat) (h : XR E sz (J1, N1, Q, O, U) J N fl) : XR E sz (J1, N1, zk_un Q 26 f, O, U) J N fl := h
theorem XR.j22 (k : Nat) (x : Int32) (h : XR E sz (J1, N1, Q, O, U) J N fl) : XR E sz (zk_uj J1 22 k x, N1, Q, O, U) J N fl := by
  refine h.cn ?_ rfl
  funext o
  unfold zk_uj
  rw [if_neg (fun z => absurd z.1 (by decide))]
theorem IC.grow (h : IC E sz (J1, N1, Q, O, U) J N) {O2 : zk_Hp} {sz2 : Nat} (hO : ∀ q, q < sz → O2 q = O q) (hsz : sz ≤ sz2) : IC E sz2 (J1, N1, Q, O2, U) J N := ⟨h.1, h.2.1.grow hO hsz, h.2.2⟩
theorem IC.ob (h : IC E sz (J1, N1, Q, O, U) J N) {O2 : zk_Hp} (hO : ∀ q x, O q = some (.inr x) → O2 q = O q) : IC E sz (J1, N1, Q, O2, U) J N := ⟨h.1, h.2.1.ob hO, h.2.2⟩
end XRO
/-- an array of ints is written -/
theorem ob_up {E : zk_E} {O : zk_Hp} {a n : Nat} {f : Nat → Int32} (e : va_E) (h : O a = some (.inl (zk_ar E 0, n, .inl f))) : ∀ q x, O q = some (.inr x) → zk_up O a e q = O q := fun q x hq => zk_up_ne _ _ (fun w => by rw [w, h] at hq; cases hq)
theorem okR_nat {fl x y w h u : Int32} (hok : m_okR fl x y w h u = true) : VN fl 0 2 ∧ VN x 0 60 ∧ VN y 0 60 ∧ VN w 1 30 ∧ VN h 1 30 ∧ VN u 0 3 := by
  unfold m_okR at hok
  simp only [Bool.and_eq_true] at hok
  obtain ⟨a1, a2, a3, a4, a5, a6⟩ := hok
  exact ⟨m_isIn_VN (lo := 0) (hi := 2) (by decide) (by decide) a1, m_isIn_VN (lo := 0) (hi := 60) (by decide) (by decide) a2, m_isIn_VN (lo := 0) (hi := 60) (by decide) (by decide) a3, m_isIn_VN (lo := 1) (hi := 30) (by decide) (by decide) a4, m_isIn_VN (lo := 1) (hi := 30) (by decide) (by decide) a5, m_isIn_VN (lo := 0) (hi := 3) (by decide) (by decide) a6⟩
def sp_X11_addRoom (E : zk_E) : zk_Sp zk_S := fun av σ sz P PX => match av with
  | [.ref a, .int fl, .int x, .int y, .int w, .int hh, .int u] => a = zk_ad E 22 ∧ ∃ J N d, HI E sz σ J N d ∧ m_nr J < 20 ∧ m_okR fl x y w hh u = true ∧ (m_ex (m_hit N fl x y w hh) (m_nr J) = false → ∀ σ2 sz2, HI E sz2 σ2 (uJ_room J) (uN_room N (m_nr J) fl x y w hh u) d → P (some (.int 1)) σ2 sz2) ∧ (m_ex (m_hit N fl x y w hh) (m_nr J) = true → ∀ σ2 sz2, HI E sz2 σ2 J N d → P (some (.int 1)) σ2 sz2)
  | _ => False
theorem spe_X11_addRoom (E : zk_E) (a : Nat) (fl : Int32) (x : Int32) (y : Int32) (w : Int32) (hh : Int32) (u : Int32) (σ : zk_S) (sz : Nat) (P : zk_P zk_S) (PX : zk_X zk_S) : sp_X11_addRoom E [.ref a, .int fl, .int x, .int y, .int w, .int hh, .int u] σ sz P PX = (a = zk_ad E 22 ∧ ∃ J N d, HI E sz σ J N d ∧ m_nr J < 20 ∧ m_okR fl x y w hh u = true ∧ (m_ex (m_hit N fl x y w hh) (m_nr J) = false → ∀ σ2 sz2, HI E sz2 σ2 (uJ_room J) (uN_room N (m_nr J) fl x y w hh u) d → P (some (.int 1)) σ2 sz2) ∧ (m_ex (m_hit N fl x y w hh) (m_nr J) = true → ∀ σ2 sz2, HI E sz2 σ2 J N d → P (some (.int 1)) σ2 sz2)) := propext Iff.rfl
theorem HI.addR {E : zk_E} {sz z2 d : Nat} {J N : Nat → Nat → Int32} {J1 N1 J2 N2 : Nat → Nat → Int32} {Q Q2 : Nat → Nat → Option Nat} {O O2 : zk_Hp} {U : zk_U} {fl x y w hh u : Int32} {g : Nat → Int32} (h : HI E sz (J1, N1, Q, O, U) J N d) (hn : m_nr J < 20) (hok : m_okR fl x y w hh u = true) (hg : g 0 = fl ∧ g 1 = x ∧ g 2 = y ∧ g 3 = w ∧ g 4 = hh ∧ g 5 = u ∧ g 6 = 0)
    (hz : sz + 1 ≤ z2) (h0 : J2 0 4 = 0) (hJ : ∀ o, 22 ≤ o → J2 o = J1 o) (hQ : ∀ o, 22 ≤ o → Q2 o = Q o) (hO : ∀ q, q < sz + 1 → isA (zk_up O sz (.inl (zk_ar E 0, 7, .inl g)) q) → O2 q = zk_up O sz (.inl (zk_ar E 0, 7, .inl g)) q) (hx : XR E z2 (J2, N2, Q2, O2, U) (uJ_room J) (uN_room N (m_nr J) fl x y w hh u) (fl0 (uN_room N (m_nr J) fl x y w hh u))) :
    HI E z2 (zk_uj J2 22 3 (nI (m_nr J + 1)), N2, zk_un Q2 23 (va_up (Q2 23) (m_nr J) (some sz)), O2, U) (uJ_room J) (uN_room N (m_nr J) fl x y w hh u) d := by
  obtain ⟨hic, ⟨⟨g1, g2, g3, g4⟩, k1, k2, k3⟩, hU, hd, hsz⟩ := h
  obtain ⟨hmi, em⟩ := hic.1.room hok (by omega)
  have hms := hic.1.1
  have keep : ∀ q c m f, q < sz → O q = some (.inl (c, m, .inl f)) → O2 q = O q := fun q c m f hq hOq => by
    have e : zk_up O sz (.inl (zk_ar E 0, 7, .inl g)) q = O q := zk_up_ne _ _ (by omega)
    rw [hO q (by omega) (by rw [e]; exact ⟨c, m, f, hOq⟩), e]
  have hnew : O2 sz = some (.inl (zk_ar E 0, 7, .inl g)) := by
    rw [hO sz (by omega) (by rw [zk_up_same]; exact ⟨_, _, _, rfl⟩), zk_up_same]
  have hJ22 := hJ 22 (Nat.le_refl _)
  have hQ23 := hQ 23 (by decide)
  have hQ24 := hQ 24 (by decide)
  have hQ26 := hQ 26 (by decide)
  have uj3 : ∀ k, k ≠ 3 → zk_uj J2 22 3 (nI (m_nr J + 1)) 22 k = J1 22 k := fun k hk => by
    unfold zk_uj
    rw [if_neg (fun z => hk z.2), hJ22]
  have nfl : ¬ fl = -2 := fun z => by
    obtain ⟨n, -, n2, e⟩ := (okR_nat hok).1
    rw [e] at z
    exact nI_ne2 (by omega) z
  have hnr := hms.1.1
  refine ⟨⟨hmi, (hx.j22 3 _).q23 _, Or.inl h0⟩, ⟨⟨?_, ?_, ?_, ?_⟩, ?_, ?_, ?_⟩, hU, ?_, by omega⟩
  · show nI (m_nr J + 1) = J 22 1 + 1
    rw [hnr, n_succ]
  · exact (uj3 5 (by decide)).trans g2
  · exact (uj3 7 (by decide)).trans g3
  · exact (uj3 9 (by decide)).trans g4
  · rw [em]
    show HK E z2 (va_up (Q2 23) (m_nr J) (some sz)) O2 (m_nr J + 1) 7 _
    rw [hQ23]
    have k1' : HK E z2 (Q 23) O2 (m_nr J) 7 (GRm N) := HK.keep k1 (fun a c m f => keep a c m f) (by omega)
    refine k1'.push (f := g) ⟨hsz, by omega⟩ hnew (fun r hr z => ?_) (fun r f hr hf => ?_) ?_
    · obtain ⟨a, f, z1, z2, -⟩ := k1.row hr
      have e : Q 23 r = some a := z1
      rw [e] at z
      cases z
      exact absurd z2.2 (Nat.lt_irrefl _)
    · have we := uN_room_we N (m_nr J) fl x y w hh u
      unfold GRm at hf ⊢
      rw [we.1 23 (by decide) (by decide) r hr, we.1 24 (by decide) (by decide) r hr, we.1 25 (by decide) (by decide) r hr, we.1 26 (by decide) (by decide) r hr, we.1 27 (by decide) (by decide) r hr, we.1 28 (by decide) (by decide) r hr, we.1 29 (by decide) (by decide) r hr]
      exact hf
    · have f1 : uN_room N (m_nr J) fl x y w hh u 23 (m_nr J) = fl := upd_self _ _ _
      have f2 : uN_room N (m_nr J) fl x y w hh u 24 (m_nr J) = x := upd_self _ _ _
      have f3 : uN_room N (m_nr J) fl x y w hh u 25 (m_nr J) = y := upd_self _ _ _
      have f4 : uN_room N (m_nr J) fl x y w hh u 26 (m_nr J) = w := upd_self _ _ _
      have f5 : uN_room N (m_nr J) fl x y w hh u 27 (m_nr J) = hh := upd_self _ _ _
      have f6 : uN_room N (m_nr J) fl x y w hh u 28 (m_nr J) = u := upd_self _ _ _
      have f7 : uN_room N (m_nr J) fl x y w hh u 29 (m_nr J) = 0 := upd_self _ _ _
      refine ⟨fun _ => ?_, fun z => absurd (f1.symm.trans z) nfl⟩
      rw [f1, f2, f3, f4, f5, f6, f7]
      exact hg
  · show HK E z2 (Q2 24) O2 (m_nd J) 8 (GDr N)
    rw [hQ24]
    exact HK.keep k2 (fun a c m f => keep a c m f) (by omega)
  · show HK E z2 (Q2 26) O2 (m_ns J) 5 (GSt N)
    rw [hQ26]
    exact HK.keep k3 (fun a c m f => keep a c m f) (by omega)
  · exact (uj3 2 (by decide)).trans hd
theorem HI.grow {E : zk_E} {sz z2 d : Nat} {J N : Nat → Nat → Int32} {J1 N1 : Nat → Nat → Int32} {Q : Nat → Nat → Option Nat} {O O2 : zk_Hp} {U : zk_U} (h : HI E sz (J1, N1, Q, O, U) J N d) (hO : ∀ q, q < sz → O2 q = O q) (hz : sz ≤ z2) : HI E z2 (J1, N1, Q, O2, U) J N d := by
  obtain ⟨hic, hhr, hU, hd, hsz⟩ := h
  exact ⟨hic.grow hO hz, hhr.keep (fun _ _ => rfl) (fun _ _ => rfl) (fun a c m g ha _ => hO a ha) hz, hU, hd, by omega⟩
def C_X11_addRoom (E : zk_E) : zk_Cl zk_S := zk_lka [(90, 2, 0, 0, sp_X11_area E), (123, 7, 4, 26, zk_rv (zk_VT E) (fun ci => Nat.beq ci 9) (sp_X10_addRoom E))]
theorem r_X11_addRoom (E : zk_E) (P : zk_P zk_S) (PX : zk_X zk_S) (K : Nat → zk_L → List Value → zk_W zk_S → Prop) : (∀ (n : Nat) (l0 l1 l2 l3 l4 l5 l6 l7 l8 l9 : Option Value)  (r : List Value) (σ : zk_S) (sz k c : Nat), zk_run E (zk_VT E) M_X11_addRoom (C_X11_addRoom E) P PX K (n + 1) 0 [l0, l1, l2, l3, l4, l5, l6, l7, l8, l9] r (σ, sz, k, c) = zk_run E (zk_VT E) M_X11_addRoom (C_X11_addRoom E) P PX K n 2 [l0, l1, l2, l3, l4, l5, l6, l7, l8, l9] (.int (7) :: r) (σ, sz, k, c)) ∧
  (∀ (n : Nat) (l0 l1 l2 l3 l4 l5 l6 l7 l8 l9 : Option Value) (x : Int32) (r : List Value) (σ : zk_S) (sz k c : Nat), zk_run E (zk_VT E) M_X11_addRoom (C_X11_addRoom E) P PX K (n + 1) 2 [l0, l1, l2, l3, l4, l5, l6, l7, l8, l9] (.int x :: r) (σ, sz, k, c) = (¬ x < 0 ∧ x.toNatClampNeg ≤ 1000000 ∧ k + 1 ≤ 5 ∧ c + x.toNatClampNeg ≤ 33 ∧ zk_nar E .int x.toNatClampNeg (fun e => zk_wrok E σ sz e ∧ zk_run E (zk_VT E) M_X11_addRoom (C_X11_addRoom E) P PX K n 4 [l0, l1, l2, l3, l4, l5, l6, l7, l8, l9] (.ref sz :: r) (zk_wr E σ sz e, sz + 1, k + 1, c + x.toNatClampNeg)))) ∧
  (∀ (n : Nat) (l0 l1 l2 l3 l4 l5 l6 l7 l8 l9 : Option Value) (v : Value) (r : List Value) (σ : zk_S) (sz k c : Nat), zk_run E (zk_VT E) M_X11_addRoom (C_X11_addRoom E) P PX K (n + 1) 4 [l0, l1, l2, l3, l4, l5, l6, l7, l8, l9] (v :: r) (σ, sz, k, c) = (zk_c1 v ∧ zk_run E (zk_VT E) M_X11_addRoom (C_X11_addRoom E) P PX K n 5 [l0, l1, l2, l3, l4, l5, l6, l7, l8, l9] (v :: v :: r) (σ, sz, k, c))) ∧
  (∀ (n : Nat) (l0 l1 l2 l3 l4 l5 l6 l7 l8 l9 : Option Value)  (r : List Value) (σ : zk_S) (sz k c : Nat), zk_run E (zk_VT E) M_X11_addRoom (C_X11_addRoom E) P PX K (n + 1) 5 [l0, l1, l2, l3, l4, l5, l6, l7, l8, l9] r (σ, sz, k, c) = zk_run E (zk_VT E) M_X11_addRoom (C_X11_addRoom E) P PX K n 6 [l0, l1, l2, l3, l4, l5, l6, l7, l8, l9] (.int (0) :: r) (σ, sz, k, c)) ∧
  (∀ (n : Nat) (l0 l2 l3 l4 l5 l6 l7 l8 l9 : Option Value) (y1 : Int32) (r : List Value) (σ : zk_S) (sz k c : Nat), zk_run E (zk_VT E) M_X11_addRoom (C_X11_addRoom E) P PX K (n + 1) 6 [l0, some (.int y1), l2, l3, l4, l5, l6, l7, l8, l9] r (σ, sz, k, c) = zk_run E (zk_VT E) M_X11_addRoom (C_X11_addRoom E) P PX K n 7 [l0, some (.int y1), l2, l3, l4, l5, l6, l7, l8, l9] (.int y1 :: r) (σ, sz, k, c)) ∧
  (∀ (n : Nat) (l0 l1 l2 l3 l4 l5 l6 l7 l8 l9 : Option Value) (a : Nat) (i x : Int32) (r : List Value) (σ : zk_S) (sz k c : Nat), zk_run E (zk_VT E) M_X11_addRoom (C_X11_addRoom E) P PX K (n + 1) 7 [l0, l1, l2, l3, l4, l5, l6, l7, l8, l9] (.int x :: .int i :: .ref a :: r) (σ, sz, k, c) = zk_ist (zk_view E σ a) (zk_ar E 0) i x (fun e => zk_wrok E σ a e ∧ zk_run E (zk_VT E) M_X11_addRoom (C_X11_addRoom E) P PX K n 8 [l0, l1, l2, l3, l4, l5, l6, l7, l8, l9] r (zk_wr E σ a e, sz, k, c))) ∧
  (∀ (n : Nat) (l0 l1 l2 l3 l4 l5 l6 l7 l8 l9 : Option Value) (v : Value) (r : List Value) (σ : zk_S) (sz k c : Nat), zk_run E (zk_VT E) M_X11_addRoom (C_X11_addRoom E) P PX K (n + 1) 8 [l0, l1, l2, l3, l4, l5, l6, l7, l8, l9] (v :: r) (σ, sz, k, c) = (zk_c1 v ∧ zk_run E (zk_VT E) M_X11_addRoom (C_X11_addRoom E) P PX K n 9 [l0, l1, l2, l3, l4, l5, l6, l7, l8, l9] (v :: v :: r) (σ, sz, k, c))) ∧
  (∀ (n : Nat) (l0 l1 l2 l3 l4 l5 l6 l7 l8 l9 : Option Value)  (r : List Value) (σ : zk_S) (sz k c : Nat), zk_run E (zk_VT E) M_X11_addRoom (C_X11_addRoom E) P PX K (n + 1) 9 [l0, l1, l2, l3, l4, l5, l6, l7, l8, l9] r (σ, sz, k, c) = zk_run E (zk_VT E) M_X11_addRoom (C_X11_addRoom E) P PX K n 10 [l0, l1, l2, l3, l4, l5, l6, l7, l8, l9] (.int (1) :: r) (σ, sz, k, c)) ∧
  (∀ (n : Nat) (l0 l1 l3 l4 l5 l6 l7 l8 l9 : Option Value) (y2 : Int32) (r : List Value) (σ : zk_S) (sz k c : Nat), zk_run E (zk_VT E) M_X11_addRoom (C_X11_addRoom E) P PX K (n + 1) 10 [l0, l1, some (.int y2), l3, l4, l5, l6, l7, l8, l9] r (σ, sz, k, c) = zk_run E (zk_VT E) M_X11_addRoom (C_X11_addRoom E) P PX K n 11 [l0, l1, some (.int y2), l3, l4, l5, l6, l7, l8, l9] (.int y2 :: r) (σ, sz, k, c)) ∧
  (∀ (n : Nat) (l0 l1 l2 l3 l4 l5 l6 l7 l8 l9 : Option Value) (a : Nat) (i x : Int32) (r : List Value) (σ : zk_S) (sz k c : Nat), zk_run E (zk_VT E) M_X11_addRoom (C_X11_addRoom E) P PX K (n + 1) 11 [l0, l1, l2, l3, l4, l5, l6, l7, l8, l9] (.int x :: .int i :: .ref a :: r) (σ, sz, k, c) = zk_ist (zk_view E σ a) (zk_ar E 0) i x (fun e => zk_wrok E σ a e ∧ zk_run E (zk_VT E) M_X11_addRoom (C_X11_addRoom E) P PX K n 12 [l0, l1, l2, l3, l4, l5, l6, l7, l8, l9] r (zk_wr E σ a e, sz, k, c))) ∧
  (∀ (n : Nat) (l0 l1 l2 l3 l4 l5 l6 l7 l8 l9 : Option Value) (v : Value) (r : List Value) (σ : zk_S) (sz k c : Nat), zk_run E (zk_VT E) M_X11_addRoom (C_X11_addRoom E) P PX K (n + 1) 12 [l0, l1, l2, l3, l4, l5, l6, l7, l8, l9] (v :: r) (σ, sz, k, c) = (zk_c1 v ∧ zk_run E (zk_VT E) M_X11_addRoom (C_X11_addRoom E) P PX K n 13 [l0, l1, l2, l3, l4, l5, l6, l7, l8, l9] (v :: v :: r) (σ, sz, k, c))) ∧
  (∀ (n : Nat) (l0 l1 l2 l3 l4 l5 l6 l7 l8 l9 : Option Value)  (r : List Value) (σ : zk_S) (sz k c : Nat), zk_run E (zk_VT E) M_X11_addRoom (C_X11_addRoom E) P PX K (n + 1) 13 [l0, l1, l2, l3, l4, l5, l6, l7, l8, l9] r (σ, sz, k, c) = zk_run E (zk_VT E) M_X11_addRoom (C_X11_addRoom E) P PX K n 14 [l0, l1, l2, l3, l4, l5, l6, l7, l8, l9] (.int (2) :: r) (σ, sz, k, c)) ∧
  (∀ (n : Nat) (l0 l1 l2 l4 l5 l6 l7 l8 l9 : Option Value) (y3 : Int32) (r : List Value) (σ : zk_S) (sz k c : Nat), zk_run E (zk_VT E) M_X11_addRoom (C_X11_addRoom E) P PX K (n + 1) 14 [l0, l1, l2, some (.int y3), l4, l5, l6, l7, l8, l9] r (σ, sz, k, c) = zk_run E (zk_VT E) M_X11_addRoom (C_X11_addRoom E) P PX K n 15 [l0, l1, l2, some (.int y3), l4, l5, l6, l7, l8, l9] (.int y3 :: r) (σ, sz, k, c)) ∧
  (∀ (n : Nat) (l0 l1 l2 l3 l4 l5 l6 l7 l8 l9 : Option Value) (a : Nat) (i x : Int32) (r : List Value) (σ : zk_S) (sz k c : Nat), zk_run E (zk_VT E) M_X11_addRoom (C_X11_addRoom E) P PX K (n + 1) 15 [l0, l1, l2, l3, l4, l5, l6, l7, l8, l9] (.int x :: .int i :: .ref a :: r) (σ, sz, k, c) = zk_ist (zk_view E σ a) (zk_ar E 0) i x (fun e => zk_wrok E σ a e ∧ zk_run E (zk_VT E) M_X11_addRoom (C_X11_addRoom E) P PX K n 16 [l0, l1, l2, l3, l4, l5, l6, l7, l8, l9] r (zk_wr E σ a e, sz, k, c))) ∧
  (∀ (n : Nat) (l0 l1 l2 l3 l4 l5 l6 l7 l8 l9 : Option Value) (v : Value) (r : List Value) (σ : zk_S) (sz k c : Nat), zk_run E (zk_VT E) M_X11_addRoom (C_X11_addRoom E) P PX K (n + 1) 16 [l0, l1, l2, l3, l4, l5, l6, l7, l8, l9] (v :: r) (σ, sz, k, c) = (zk_c1 v ∧ zk_run E (zk_VT E) M_X11_addRoom (C_X11_addRoom E) P PX K n 17 [l0, l1, l2, l3, l4, l5, l6, l7, l8, l9] (v :: v :: r) (σ, sz, k, c))) ∧
  (∀ (n : Nat) (l0 l1 l2 l3 l4 l5 l6 l7 l8 l9 : Option Value)  (r : List Value) (σ : zk_S) (sz k c : Nat), zk_run E (zk_VT E) M_X11_addRoom (C_X11_addRoom E) P PX K (n + 1) 17 [l0, l1, l2, l3, l4, l5, l6, l7, l8, l9] r (σ, sz, k, c) = zk_run E (zk_VT E) M_X11_addRoom (C_X11_addRoom E) P PX K n 18 [l0, l1, l2, l3, l4, l5, l6, l7, l8, l9] (.int (3) :: r) (σ, sz, k, c)) ∧
  (∀ (n : Nat) (l0 l1 l2 l3 l5 l6 l7 l8 l9 : Option Value) (y4 : Int32) (r : List Value) (σ : zk_S) (sz k c : Nat), zk_run E (zk_VT E) M_X11_addRoom (C_X11_addRoom E) P PX K (n + 1) 18 [l0, l1, l2, l3, some (.int y4), l5, l6, l7, l8, l9] r (σ, sz, k, c) = zk_run E (zk_VT E) M_X11_addRoom (C_X11_addRoom E) P PX K n 20 [l0, l1, l2, l3, some (.int y4), l5, l6, l7, l8, l9] (.int y4 :: r) (σ, sz, k, c)) ∧
  (∀ (n : Nat) (l0 l1 l2 l3 l4 l5 l6 l7 l8 l9 : Option Value) (a : Nat) (i x : Int32) (r : List Value) (σ : zk_S) (sz k c : Nat), zk_run E (zk_VT E) M_X11_addRoom (C_X11_addRoom E) P PX K (n + 1) 20 [l0, l1, l2, l3, l4, l5, l6, l7, l8, l9] (.int x :: .int i :: .ref a :: r) (σ, sz, k, c) = zk_ist (zk_view E σ a) (zk_ar E 0) i x (fun e => zk_wrok E σ a e ∧ zk_run E (zk_VT E) M_X11_addRoom (C_X11_addRoom E) P PX K n 21 [l0, l1, l2, l3, l4, l5, l6, l7, l8, l9] r (zk_wr E σ a e, sz, k, c))) ∧
  (∀ (n : Nat) (l0 l1 l2 l3 l4 l5 l6 l7 l8 l9 : Option Value) (v : Value) (r : List Value) (σ : zk_S) (sz k c : Nat), zk_run E (zk_VT E) M_X11_addRoom (C_X11_addRoom E) P PX K (n + 1) 21 [l0, l1, l2, l3, l4, l5, l6, l7, l8, l9] (v :: r) (σ, sz, k, c) = (zk_c1 v ∧ zk_run E (zk_VT E) M_X11_addRoom (C_X11_addRoom E) P PX K n 22 [l0, l1, l2, l3, l4, l5, l6, l7, l8, l9] (v :: v :: r) (σ, sz, k, c))) ∧
  (∀ (n : Nat) (l0 l1 l2 l3 l4 l5 l6 l7 l8 l9 : Option Value)  (r : List Value) (σ : zk_S) (sz k c : Nat), zk_run E (zk_VT E) M_X11_addRoom (C_X11_addRoom E) P PX K (n + 1) 22 [l0, l1, l2, l3, l4, l5, l6, l7, l8, l9] r (σ, sz, k, c) = zk_run E (zk_VT E) M_X11_addRoom (C_X11_addRoom E) P PX K n 23 [l0, l1, l2, l3, l4, l5, l6, l7, l8, l9] (.int (4) :: r) (σ, sz, k, c)) ∧
  (∀ (n : Nat) (l0 l1 l2 l3 l4 l6 l7 l8 l9 : Option Value) (y5 : Int32) (r : List Value) (σ : zk_S) (sz k c : Nat), zk_run E (zk_VT E) M_X11_addRoom (C_X11_addRoom E) P PX K (n + 1) 23 [l0, l1, l2, l3, l4, some (.int y5), l6, l7, l8, l9] r (σ, sz, k, c) = zk_run E (zk_VT E) M_X11_addRoom (C_X11_addRoom E) P PX K n 25 [l0, l1, l2, l3, l4, some (.int y5), l6, l7, l8, l9] (.int y5 :: r) (σ, sz, k, c)) ∧
  (∀ (n : Nat) (l0 l1 l2 l3 l4 l5 l6 l7 l8 l9 : Option Value) (a : Nat) (i x : Int32) (r : List Value) (σ : zk_S) (sz k c : Nat), zk_run E (zk_VT E) M_X11_addRoom (C_X11_addRoom E) P PX K (n + 1) 25 [l0, l1, l2, l3, l4, l5, l6, l7, l8, l9] (.int x :: .int i :: .ref a :: r) (σ, sz, k, c) = zk_ist (zk_view E σ a) (zk_ar E 0) i x (fun e => zk_wrok E σ a e ∧ zk_run E (zk_VT E) M_X11_addRoom (C_X11_addRoom E) P PX K n 26 [l0, l1, l2, l3, l4, l5, l6, l7, l8, l9] r (zk_wr E σ a e, sz, k, c))) ∧
  (∀ (n : Nat) (l0 l1 l2 l3 l4 l5 l6 l7 l8 l9 : Option Value) (v : Value) (r : List Value) (σ : zk_S) (sz k c : Nat), zk_run E (zk_VT E) M_X11_addRoom (C_X11_addRoom E) P PX K (n + 1) 26 [l0, l1, l2, l3, l4, l5, l6, l7, l8, l9] (v :: r) (σ, sz, k, c) = (zk_c1 v ∧ zk_run E (zk_VT E) M_X11_addRoom (C_X11_addRoom E) P PX K n 27 [l0, l1, l2, l3, l4, l5, l6, l7, l8, l9] (v :: v :: r) (σ, sz, k, c))) ∧
  (∀ (n : Nat) (l0 l1 l2 l3 l4 l5 l6 l7 l8 l9 : Option Value)  (r : List Value) (σ : zk_S) (sz k c : Nat), zk_run E (zk_VT E) M_X11_addRoom (C_X11_addRoom E) P PX K (n + 1) 27 [l0, l1, l2, l3, l4, l5, l6, l7, l8, l9] r (σ, sz, k, c) = zk_run E (zk_VT E) M_X11_addRoom (C_X11_addRoom E) P PX K n 28 [l0, l1, l2, l3, l4, l5, l6, l7, l8, l9] (.int (5) :: r) (σ, sz, k, c)) ∧
  (∀ (n : Nat) (l0 l1 l2 l3 l4 l5 l7 l8 l9 : Option Value) (y6 : Int32) (r : List Value) (σ : zk_S) (sz k c : Nat), zk_run E (zk_VT E) M_X11_addRoom (C_X11_addRoom E) P PX K (n + 1) 28 [l0, l1, l2, l3, l4, l5, some (.int y6), l7, l8, l9] r (σ, sz, k, c) = zk_run E (zk_VT E) M_X11_addRoom (C_X11_addRoom E) P PX K n 30 [l0, l1, l2, l3, l4, l5, some (.int y6), l7, l8, l9] (.int y6 :: r) (σ, sz, k, c)) ∧
  (∀ (n : Nat) (l0 l1 l2 l3 l4 l5 l6 l7 l8 l9 : Option Value) (a : Nat) (i x : Int32) (r : List Value) (σ : zk_S) (sz k c : Nat), zk_run E (zk_VT E) M_X11_addRoom (C_X11_addRoom E) P PX K (n + 1) 30 [l0, l1, l2, l3, l4, l5, l6, l7, l8, l9] (.int x :: .int i :: .ref a :: r) (σ, sz, k, c) = zk_ist (zk_view E σ a) (zk_ar E 0) i x (fun e => zk_wrok E σ a e ∧ zk_run E (zk_VT E) M_X11_addRoom (C_X11_addRoom E) P PX K n 31 [l0, l1, l2, l3, l4, l5, l6, l7, l8, l9] r (zk_wr E σ a e, sz, k, c))) ∧
  (∀ (n : Nat) (l0 l1 l2 l3 l4 l5 l6 l7 l8 l9 : Option Value) (v : Value) (r : List Value) (σ : zk_S) (sz k c : Nat), zk_run E (zk_VT E) M_X11_addRoom (C_X11_addRoom E) P PX K (n + 1) 31 [l0, l1, l2, l3, l4, l5, l6, l7, l8, l9] (v :: r) (σ, sz, k, c) = (zk_c1 v ∧ zk_run E (zk_VT E) M_X11_addRoom (C_X11_addRoom E) P PX K n 32 [l0, l1, l2, l3, l4, l5, l6, l7, l8, l9] (v :: v :: r) (σ, sz, k, c))) ∧
  (∀ (n : Nat) (l0 l1 l2 l3 l4 l5 l6 l7 l8 l9 : Option Value)  (r : List Value) (σ : zk_S) (sz k c : Nat), zk_run E (zk_VT E) M_X11_addRoom (C_X11_addRoom E) P PX K (n + 1) 32 [l0, l1, l2, l3, l4, l5, l6, l7, l8, l9] r (σ, sz, k, c) = zk_run E (zk_VT E) M_X11_addRoom (C_X11_addRoom E) P PX K n 34 [l0, l1, l2, l3, l4, l5, l6, l7, l8, l9] (.int (6) :: r) (σ, sz, k, c)) ∧
  (∀ (n : Nat) (l0 l1 l2 l3 l4 l5 l6 l7 l8 l9 : Option Value)  (r : List Value) (σ : zk_S) (sz k c : Nat), zk_run E (zk_VT E) M_X11_addRoom (C_X11_addRoom E) P PX K (n + 1) 34 [l0, l1, l2, l3, l4, l5, l6, l7, l8, l9] r (σ, sz, k, c) = zk_run E (zk_VT E) M_X11_addRoom (C_X11_addRoom E) P PX K n 35 [l0, l1, l2, l3, l4, l5, l6, l7, l8, l9] (.int (0) :: r) (σ, sz, k, c)) ∧
  (∀ (n : Nat) (l0 l1 l2 l3 l4 l5 l6 l7 l8 l9 : Option Value) (a : Nat) (i x : Int32) (r : List Value) (σ : zk_S) (sz k c : Nat), zk_run E (zk_VT E) M_X11_addRoom (C_X11_addRoom E) P PX K (n + 1) 35 [l0, l1, l2, l3, l4, l5, l6, l7, l8, l9] (.int x :: .int i :: .ref a :: r) (σ, sz, k, c) = zk_ist (zk_view E σ a) (zk_ar E 0) i x (fun e => zk_wrok E σ a e ∧ zk_run E (zk_VT E) M_X11_addRoom (C_X11_addRoom E) P PX K n 36 [l0, l1, l2, l3, l4, l5, l6, l7, l8, l9] r (zk_wr E σ a e, sz, k, c))) ∧
  (∀ (n : Nat) (l0 l1 l2 l3 l4 l5 l6 l7 l8 l9 : Option Value) (x : Value) (r : List Value) (σ : zk_S) (sz k c : Nat), zk_run E (zk_VT E) M_X11_addRoom (C_X11_addRoom E) P PX K (n + 1) 36 [l0, l1, l2, l3, l4, l5, l6, l7, l8, l9] (x :: r) (σ, sz, k, c) = (zk_isr x ∧ zk_run E (zk_VT E) M_X11_addRoom (C_X11_addRoom E) P PX K n 38 [l0, l1, l2, l3, l4, l5, zk_kl l6, some (x), l8, l9] r (σ, sz, k, c))) ∧
  (∀ (n : Nat) (l1 l2 l3 l4 l5 l6 l7 l8 l9 : Option Value) (y0 : Value) (r : List Value) (σ : zk_S) (sz k c : Nat), zk_run E (zk_VT E) M_X11_addRoom (C_X11_addRoom E) P PX K (n + 1) 38 [some y0, l1, l2, l3, l4, l5, l6, l7, l8, l9] r (σ, sz, k, c) = (zk_isr y0 ∧ zk_run E (zk_VT E) M_X11_addRoom (C_X11_addRoom E) P PX K n 39 [some y0, l1, l2, l3, l4, l5, l6, l7, l8, l9] (y0 :: r) (σ, sz, k, c))) ∧
  (∀ (n : Nat) (l0 l1 l2 l3 l4 l5 l6 l7 l8 l9 : Option Value) (a : Nat) (r : List Value) (σ : zk_S) (sz k c : Nat), zk_run E (zk_VT E) M_X11_addRoom (C_X11_addRoom E) P PX K (n + 1) 39 [l0, l1, l2, l3, l4, l5, l6, l7, l8, l9] (.ref a :: r) (σ, sz, k, c) = zk_fld (zk_view E σ a) [10] 3 (fun v => zk_run E (zk_VT E) M_X11_addRoom (C_X11_addRoom E) P PX K n 42 [l0, l1, l2, l3, l4, l5, l6, l7, l8, l9] (v :: r) (σ, sz, k, c))) ∧
  (∀ (n : Nat) (l0 l1 l2 l3 l4 l5 l6 l7 l8 l9 : Option Value)  (r : List Value) (σ : zk_S) (sz k c : Nat), zk_run E (zk_VT E) M_X11_addRoom (C_X11_addRoom E) P PX K (n + 1) 42 [l0, l1, l2, l3, l4, l5, l6, l7, l8, l9] r (σ, sz, k, c) = zk_run E (zk_VT E) M_X11_addRoom (C_X11_addRoom E) P PX K n 44 [l0, l1, l2, l3, l4, l5, l6, l7, l8, l9] (.int (20) :: r) (σ, sz, k, c)) ∧
  (∀ (n : Nat) (l0 l1 l2 l3 l4 l5 l6 l7 l8 l9 : Option Value) (x y : Int32) (r : List Value) (σ : zk_S) (sz k c : Nat), zk_run E (zk_VT E) M_X11_addRoom (C_X11_addRoom E) P PX K (n + 1) 44 [l0, l1, l2, l3, l4, l5, l6, l7, l8, l9] (.int y :: .int x :: r) (σ, sz, k, c) = ((y ≤ x → zk_run E (zk_VT E) M_X11_addRoom (C_X11_addRoom E) P PX K n 51 [l0, l1, l2, l3, l4, l5, l6, l7, l8, l9] r (σ, sz, k, c)) ∧ (¬ (y ≤ x) → zk_run E (zk_VT E) M_X11_addRoom (C_X11_addRoom E) P PX K n 47 [l0, l1, l2, l3, l4, l5, l6, l7, l8, l9] r (σ, sz, k, c)))) ∧
  (∀ (n : Nat) (l0 l1 l2 l3 l4 l5 l6 l7 l8 l9 : Option Value)  (r : List Value) (σ : zk_S) (sz k c : Nat), zk_run E (zk_VT E) M_X11_addRoom (C_X11_addRoom E) P PX K (n + 1) 47 [l0, l1, l2, l3, l4, l5, l6, l7, l8, l9] r (σ, sz, k, c) = zk_run E (zk_VT E) M_X11_addRoom (C_X11_addRoom E) P PX K n 48 [l0, l1, l2, l3, l4, l5, l6, l7, l8, l9] (.int (1) :: r) (σ, sz, k, c)) ∧
  (∀ (n : Nat) (l0 l1 l2 l3 l4 l5 l6 l7 l8 l9 : Option Value)  (r : List Value) (σ : zk_S) (sz k c : Nat), zk_run E (zk_VT E) M_X11_addRoom (C_X11_addRoom E) P PX K (n + 1) 48 [l0, l1, l2, l3, l4, l5, l6, l7, l8, l9] r (σ, sz, k, c) = zk_run E (zk_VT E) M_X11_addRoom (C_X11_addRoom E) P PX K n 52 [l0, l1, l2, l3, l4, l5, l6, l7, l8, l9] r (σ, sz, k, c)) ∧
  (∀ (n : Nat) (l0 l1 l2 l3 l4 l5 l6 l7 l8 l9 : Option Value)  (r : List Value) (σ : zk_S) (sz k c : Nat), zk_run E (zk_VT E) M_X11_addRoom (C_X11_addRoom E) P PX K (n + 1) 51 [l0, l1, l2, l3, l4, l5, l6, l7, l8, l9] r (σ, sz, k, c) = zk_run E (zk_VT E) M_X11_addRoom (C_X11_addRoom E) P PX K n 52 [l0, l1, l2, l3, l4, l5, l6, l7, l8, l9] (.int (0) :: r) (σ, sz, k, c)) ∧
  (∀ (n : Nat) (l0 l1 l2 l3 l4 l5 l6 l7 l8 l9 : Option Value) (x : Int32) (r : List Value) (σ : zk_S) (sz k c : Nat), zk_run E (zk_VT E) M_X11_addRoom (C_X11_addRoom E) P PX K (n + 1) 52 [l0, l1, l2, l3, l4, l5, l6, l7, l8, l9] (.int x :: r) (σ, sz, k, c) = zk_run E (zk_VT E) M_X11_addRoom (C_X11_addRoom E) P PX K n 54 [l0, l1, l2, l3, l4, l5, l6, zk_kl l7, some (.int x), l9] r (σ, sz, k, c)) ∧
  (∀ (n : Nat) (l0 l1 l2 l3 l4 l5 l6 l7 l8 l9 : Option Value)  (r : List Value) (σ : zk_S) (sz k c : Nat), zk_run E (zk_VT E) M_X11_addRoom (C_X11_addRoom E) P PX K (n + 1) 54 [l0, l1, l2, l3, l4, l5, l6, l7, l8, l9] r (σ, sz, k, c) = zk_run E (zk_VT E) M_X11_addRoom (C_X11_addRoom E) P PX K n 55 [l0, l1, l2, l3, l4, l5, l6, l7, l8, l9] (.int (0) :: r) (σ, sz, k, c)) := ⟨by intros; rfl, by intros; rfl, by intros; rfl, by intros; rfl, by intros; rfl, by intros; rfl, by intros; rfl, by intros; rfl, by intros; rfl, by intros; rfl, by intros; rfl, by intros; rfl, by intros; rfl, by intros; rfl, by intros; rfl, by intros; rfl, by intros; rfl, by intros; rfl, by intros; rfl, by intros; rfl, by intros; rfl, by intros; rfl, by intros; rfl, by intros; rfl, by intros; rfl, by intros; rfl, by intros; rfl, by intros; rfl, by intros; rfl, by intros; rfl, by intros; rfl, by intros; rfl, by intros; rfl, by intros; rfl, by intros; rfl, by intros; rfl, by intros; rfl, by intros; rfl, by intros; rfl, by intros; rfl⟩
theorem r_X11_addRoom_1 (E : zk_E) (P : zk_P zk_S) (PX : zk_X zk_S) (K : Nat → zk_L → List Value → zk_W zk_S → Prop) : (∀ (n : Nat) (l0 l1 l2 l3 l4 l5 l6 l7 l8 l9 : Option Value) (x : Int32) (r : List Value) (σ : zk_S) (sz k c : Nat), zk_run E (zk_VT E) M_X11_addRoom (C_X11_addRoom E) P PX K (n + 1) 55 [l0, l1, l2, l3, l4, l5, l6, l7, l8, l9] (.int x :: r) (σ, sz, k, c) = zk_run E (zk_VT E) M_X11_addRoom (C_X11_addRoom E) P PX K n 57 [l0, l1, l2, l3, l4, l5, l6, l7, zk_kl l8, some (.int x)] r (σ, sz, k, c)) ∧
  (∀ (n : Nat) (l0 l1 l2 l3 l4 l5 l6 l7 l8 l9 : Option Value)  (r : List Value) (σ : zk_S) (sz k c : Nat), zk_run E (zk_VT E) M_X11_addRoom (C_X11_addRoom E) P PX K (n + 1) 57 [l0, l1, l2, l3, l4, l5, l6, l7, l8, l9] r (σ, sz, k, c) = K 57 [l0, l1, l2, l3, l4, l5, l6, l7, l8, l9] r (σ, sz, k, c)) ∧
  (∀ (n : Nat) (l1 l2 l3 l4 l5 l6 l7 l8 l9 : Option Value) (y0 : Value) (r : List Value) (σ : zk_S) (sz k c : Nat), zk_run E (zk_VT E) M_X11_addRoom (C_X11_addRoom E) P PX K (n + 1) 59 [some y0, l1, l2, l3, l4, l5, l6, l7, l8, l9] r (σ, sz, k, c) = (zk_isr y0 ∧ zk_run E (zk_VT E) M_X11_addRoom (C_X11_addRoom E) P PX K n 60 [some y0, l1, l2, l3, l4, l5, l6, l7, l8, l9] (y0 :: r) (σ, sz, k, c))) ∧
  (∀ (n : Nat) (l0 l1 l2 l3 l4 l5 l6 l7 l8 l9 : Option Value) (a : Nat) (r : List Value) (σ : zk_S) (sz k c : Nat), zk_run E (zk_VT E) M_X11_addRoom (C_X11_addRoom E) P PX K (n + 1) 60 [l0, l1, l2, l3, l4, l5, l6, l7, l8, l9] (.ref a :: r) (σ, sz, k, c) = zk_fld (zk_view E σ a) [10] 3 (fun v => zk_run E (zk_VT E) M_X11_addRoom (C_X11_addRoom E) P PX K n 63 [l0, l1, l2, l3, l4, l5, l6, l7, l8, l9] (v :: r) (σ, sz, k, c))) ∧
  (∀ (n : Nat) (l0 l1 l2 l3 l4 l5 l6 l7 l8 l9 : Option Value) (x y : Int32) (r : List Value) (σ : zk_S) (sz k c : Nat), zk_run E (zk_VT E) M_X11_addRoom (C_X11_addRoom E) P PX K (n + 1) 63 [l0, l1, l2, l3, l4, l5, l6, l7, l8, l9] (.int y :: .int x :: r) (σ, sz, k, c) = ((y ≤ x → zk_run E (zk_VT E) M_X11_addRoom (C_X11_addRoom E) P PX K n 110 [l0, l1, l2, l3, l4, l5, l6, l7, l8, l9] r (σ, sz, k, c)) ∧ (¬ (y ≤ x) → zk_run E (zk_VT E) M_X11_addRoom (C_X11_addRoom E) P PX K n 66 [l0, l1, l2, l3, l4, l5, l6, l7, l8, l9] r (σ, sz, k, c)))) ∧
  (∀ (n : Nat) (l0 l1 l2 l3 l4 l5 l6 l7 l9 : Option Value) (y8 : Int32) (r : List Value) (σ : zk_S) (sz k c : Nat), zk_run E (zk_VT E) M_X11_addRoom (C_X11_addRoom E) P PX K (n + 1) 66 [l0, l1, l2, l3, l4, l5, l6, l7, some (.int y8), l9] r (σ, sz, k, c) = zk_run E (zk_VT E) M_X11_addRoom (C_X11_addRoom E) P PX K n 68 [l0, l1, l2, l3, l4, l5, l6, l7, some (.int y8), l9] (.int y8 :: r) (σ, sz, k, c)) ∧
  (∀ (n : Nat) (l1 l2 l3 l4 l5 l6 l7 l8 l9 : Option Value) (y0 : Value) (r : List Value) (σ : zk_S) (sz k c : Nat), zk_run E (zk_VT E) M_X11_addRoom (C_X11_addRoom E) P PX K (n + 1) 68 [some y0, l1, l2, l3, l4, l5, l6, l7, l8, l9] r (σ, sz, k, c) = (zk_isr y0 ∧ zk_run E (zk_VT E) M_X11_addRoom (C_X11_addRoom E) P PX K n 69 [some y0, l1, l2, l3, l4, l5, l6, l7, l8, l9] (y0 :: r) (σ, sz, k, c))) ∧
  (∀ (n : Nat) (l0 l1 l2 l3 l4 l5 l6 l7 l8 l9 : Option Value) (a : Nat) (r : List Value) (σ : zk_S) (sz k c : Nat), zk_run E (zk_VT E) M_X11_addRoom (C_X11_addRoom E) P PX K (n + 1) 69 [l0, l1, l2, l3, l4, l5, l6, l7, l8, l9] (.ref a :: r) (σ, sz, k, c) = zk_fld (zk_view E σ a) [10] 4 (fun v => zk_run E (zk_VT E) M_X11_addRoom (C_X11_addRoom E) P PX K n 72 [l0, l1, l2, l3, l4, l5, l6, l7, l8, l9] (v :: r) (σ, sz, k, c))) ∧
  (∀ (n : Nat) (l0 l1 l2 l3 l4 l5 l6 l7 l8 : Option Value) (y9 : Int32) (r : List Value) (σ : zk_S) (sz k c : Nat), zk_run E (zk_VT E) M_X11_addRoom (C_X11_addRoom E) P PX K (n + 1) 72 [l0, l1, l2, l3, l4, l5, l6, l7, l8, some (.int y9)] r (σ, sz, k, c) = zk_run E (zk_VT E) M_X11_addRoom (C_X11_addRoom E) P PX K n 74 [l0, l1, l2, l3, l4, l5, l6, l7, l8, some (.int y9)] (.int y9 :: r) (σ, sz, k, c)) ∧
  (∀ (n : Nat) (l0 l1 l2 l3 l4 l5 l6 l7 l8 l9 : Option Value) (a : Nat) (i : Int32) (r : List Value) (σ : zk_S) (sz k c : Nat), zk_run E (zk_VT E) M_X11_addRoom (C_X11_addRoom E) P PX K (n + 1) 74 [l0, l1, l2, l3, l4, l5, l6, l7, l8, l9] (.int i :: .ref a :: r) (σ, sz, k, c) = zk_qld (zk_view E σ a) i [zk_ar E 3, zk_ar E 4, zk_ar E 5, zk_ar E 6, zk_ar E 7] (fun x => (x = none → zk_run E (zk_VT E) M_X11_addRoom (C_X11_addRoom E) P PX K n 75 [l0, l1, l2, l3, l4, l5, l6, l7, l8, l9] (.null :: r) (σ, sz, k, c)) ∧ ∀ b, x = some b → zk_run E (zk_VT E) M_X11_addRoom (C_X11_addRoom E) P PX K n 75 [l0, l1, l2, l3, l4, l5, l6, l7, l8, l9] (.ref b :: r) (σ, sz, k, c))) ∧
  (∀ (n : Nat) (l0 l1 l2 l3 l4 l5 l6 l7 l8 l9 : Option Value)  (r : List Value) (σ : zk_S) (sz k c : Nat), zk_run E (zk_VT E) M_X11_addRoom (C_X11_addRoom E) P PX K (n + 1) 75 [l0, l1, l2, l3, l4, l5, l6, l7, l8, l9] r (σ, sz, k, c) = zk_run E (zk_VT E) M_X11_addRoom (C_X11_addRoom E) P PX K n 76 [l0, l1, l2, l3, l4, l5, l6, l7, l8, l9] (.int (0) :: r) (σ, sz, k, c)) ∧
  (∀ (n : Nat) (l0 l1 l2 l3 l4 l5 l6 l7 l8 l9 : Option Value) (a : Nat) (i : Int32) (r : List Value) (σ : zk_S) (sz k c : Nat), zk_run E (zk_VT E) M_X11_addRoom (C_X11_addRoom E) P PX K (n + 1) 76 [l0, l1, l2, l3, l4, l5, l6, l7, l8, l9] (.int i :: .ref a :: r) (σ, sz, k, c) = zk_ild (zk_view E σ a) (zk_ar E 0) i (fun x => zk_run E (zk_VT E) M_X11_addRoom (C_X11_addRoom E) P PX K n 77 [l0, l1, l2, l3, l4, l5, l6, l7, l8, l9] (.int x :: r) (σ, sz, k, c))) ∧
  (∀ (n : Nat) (l0 l2 l3 l4 l5 l6 l7 l8 l9 : Option Value) (y1 : Int32) (r : List Value) (σ : zk_S) (sz k c : Nat), zk_run E (zk_VT E) M_X11_addRoom (C_X11_addRoom E) P PX K (n + 1) 77 [l0, some (.int y1), l2, l3, l4, l5, l6, l7, l8, l9] r (σ, sz, k, c) = zk_run E (zk_VT E) M_X11_addRoom (C_X11_addRoom E) P PX K n 78 [l0, some (.int y1), l2, l3, l4, l5, l6, l7, l8, l9] (.int y1 :: r) (σ, sz, k, c)) ∧
  (∀ (n : Nat) (l0 l1 l2 l3 l4 l5 l6 l7 l8 l9 : Option Value) (x y : Int32) (r : List Value) (σ : zk_S) (sz k c : Nat), zk_run E (zk_VT E) M_X11_addRoom (C_X11_addRoom E) P PX K (n + 1) 78 [l0, l1, l2, l3, l4, l5, l6, l7, l8, l9] (.int y :: .int x :: r) (σ, sz, k, c) = ((¬ x = y → zk_run E (zk_VT E) M_X11_addRoom (C_X11_addRoom E) P PX K n 96 [l0, l1, l2, l3, l4, l5, l6, l7, l8, l9] r (σ, sz, k, c)) ∧ (¬ (¬ x = y) → zk_run E (zk_VT E) M_X11_addRoom (C_X11_addRoom E) P PX K n 81 [l0, l1, l2, l3, l4, l5, l6, l7, l8, l9] r (σ, sz, k, c)))) ∧
  (∀ (n : Nat) (l1 l2 l3 l4 l5 l6 l7 l8 l9 : Option Value) (y0 : Value) (r : List Value) (σ : zk_S) (sz k c : Nat), zk_run E (zk_VT E) M_X11_addRoom (C_X11_addRoom E) P PX K (n + 1) 81 [some y0, l1, l2, l3, l4, l5, l6, l7, l8, l9] r (σ, sz, k, c) = (zk_isr y0 ∧ zk_run E (zk_VT E) M_X11_addRoom (C_X11_addRoom E) P PX K n 82 [some y0, l1, l2, l3, l4, l5, l6, l7, l8, l9] (y0 :: r) (σ, sz, k, c))) ∧
  (∀ (n : Nat) (l0 l1 l2 l3 l4 l5 l6 l7 l8 l9 : Option Value) (a : Nat) (r : List Value) (σ : zk_S) (sz k c : Nat), zk_run E (zk_VT E) M_X11_addRoom (C_X11_addRoom E) P PX K (n + 1) 82 [l0, l1, l2, l3, l4, l5, l6, l7, l8, l9] (.ref a :: r) (σ, sz, k, c) = zk_fld (zk_view E σ a) [10] 4 (fun v => zk_run E (zk_VT E) M_X11_addRoom (C_X11_addRoom E) P PX K n 85 [l0, l1, l2, l3, l4, l5, l6, l7, l8, l9] (v :: r) (σ, sz, k, c))) ∧
  (∀ (n : Nat) (l0 l1 l2 l3 l4 l5 l6 l7 l8 : Option Value) (y9 : Int32) (r : List Value) (σ : zk_S) (sz k c : Nat), zk_run E (zk_VT E) M_X11_addRoom (C_X11_addRoom E) P PX K (n + 1) 85 [l0, l1, l2, l3, l4, l5, l6, l7, l8, some (.int y9)] r (σ, sz, k, c) = zk_run E (zk_VT E) M_X11_addRoom (C_X11_addRoom E) P PX K n 87 [l0, l1, l2, l3, l4, l5, l6, l7, l8, some (.int y9)] (.int y9 :: r) (σ, sz, k, c)) ∧
  (∀ (n : Nat) (l0 l1 l2 l3 l4 l5 l6 l7 l8 l9 : Option Value) (a : Nat) (i : Int32) (r : List Value) (σ : zk_S) (sz k c : Nat), zk_run E (zk_VT E) M_X11_addRoom (C_X11_addRoom E) P PX K (n + 1) 87 [l0, l1, l2, l3, l4, l5, l6, l7, l8, l9] (.int i :: .ref a :: r) (σ, sz, k, c) = zk_qld (zk_view E σ a) i [zk_ar E 3, zk_ar E 4, zk_ar E 5, zk_ar E 6, zk_ar E 7] (fun x => (x = none → zk_run E (zk_VT E) M_X11_addRoom (C_X11_addRoom E) P PX K n 88 [l0, l1, l2, l3, l4, l5, l6, l7, l8, l9] (.null :: r) (σ, sz, k, c)) ∧ ∀ b, x = some b → zk_run E (zk_VT E) M_X11_addRoom (C_X11_addRoom E) P PX K n 88 [l0, l1, l2, l3, l4, l5, l6, l7, l8, l9] (.ref b :: r) (σ, sz, k, c))) ∧
  (∀ (n : Nat) (l0 l1 l2 l3 l4 l5 l6 l8 l9 : Option Value) (y7 : Value) (r : List Value) (σ : zk_S) (sz k c : Nat), zk_run E (zk_VT E) M_X11_addRoom (C_X11_addRoom E) P PX K (n + 1) 88 [l0, l1, l2, l3, l4, l5, l6, some y7, l8, l9] r (σ, sz, k, c) = (zk_isr y7 ∧ zk_run E (zk_VT E) M_X11_addRoom (C_X11_addRoom E) P PX K n 90 [l0, l1, l2, l3, l4, l5, l6, some y7, l8, l9] (y7 :: r) (σ, sz, k, c))) ∧
  (∀ (n : Nat) (l0 l1 l2 l3 l4 l5 l6 l7 l8 l9 : Option Value) (v0 : Value) (v1 : Value) (v2 : Value)  (σ : zk_S) (sz k c : Nat), zk_run E (zk_VT E) M_X11_addRoom (C_X11_addRoom E) P PX K (n + 1) 90 [l0, l1, l2, l3, l4, l5, l6, l7, l8, l9] [v0, v1, v2] (σ, sz, k, c) = (k + 0 ≤ 5 ∧ c + 0 ≤ 33 ∧ (sp_X11_area E) [v1, v0] σ sz (fun v s2 z2 => zk_run E (zk_VT E) M_X11_addRoom (C_X11_addRoom E) P PX K n 93 [l0, l1, l2, l3, l4, l5, l6, l7, l8, l9] (zk_psh v [v2]) (s2, z2, k + 0, c + 0)) (fun X s2 z2 => (match (match Nat.beq 123 90 with
  | true => if X = "java/lang/IllegalStateException" then some 166 else none
  | false => none : Option Nat) with
    | some hp => ∀ q : Nat, zk_run E (zk_VT E) M_X11_addRoom (C_X11_addRoom E) P PX K n hp [l0, l1, l2, l3, l4, l5, l6, l7, l8, l9] [.ref q] (s2, z2, k + 0, c + 0)
    | none => PX X s2 z2)))) ∧
  (∀ (n : Nat) (l0 l1 l2 l3 l4 l5 l6 l7 l8 l9 : Option Value) (x : Int32) (r : List Value) (σ : zk_S) (sz k c : Nat), zk_run E (zk_VT E) M_X11_addRoom (C_X11_addRoom E) P PX K (n + 1) 93 [l0, l1, l2, l3, l4, l5, l6, l7, l8, l9] (.int x :: r) (σ, sz, k, c) = ((¬ x = 0 → zk_run E (zk_VT E) M_X11_addRoom (C_X11_addRoom E) P PX K n 100 [l0, l1, l2, l3, l4, l5, l6, l7, l8, l9] r (σ, sz, k, c)) ∧ (¬ (¬ x = 0) → zk_run E (zk_VT E) M_X11_addRoom (C_X11_addRoom E) P PX K n 96 [l0, l1, l2, l3, l4, l5, l6, l7, l8, l9] r (σ, sz, k, c)))) ∧
  (∀ (n : Nat) (l0 l1 l2 l3 l4 l5 l6 l7 l8 l9 : Option Value)  (r : List Value) (σ : zk_S) (sz k c : Nat), zk_run E (zk_VT E) M_X11_addRoom (C_X11_addRoom E) P PX K (n + 1) 96 [l0, l1, l2, l3, l4, l5, l6, l7, l8, l9] r (σ, sz, k, c) = zk_run E (zk_VT E) M_X11_addRoom (C_X11_addRoom E) P PX K n 97 [l0, l1, l2, l3, l4, l5, l6, l7, l8, l9] (.int (1) :: r) (σ, sz, k, c)) ∧
  (∀ (n : Nat) (l0 l1 l2 l3 l4 l5 l6 l7 l8 l9 : Option Value)  (r : List Value) (σ : zk_S) (sz k c : Nat), zk_run E (zk_VT E) M_X11_addRoom (C_X11_addRoom E) P PX K (n + 1) 97 [l0, l1, l2, l3, l4, l5, l6, l7, l8, l9] r (σ, sz, k, c) = zk_run E (zk_VT E) M_X11_addRoom (C_X11_addRoom E) P PX K n 101 [l0, l1, l2, l3, l4, l5, l6, l7, l8, l9] r (σ, sz, k, c)) ∧
  (∀ (n : Nat) (l0 l1 l2 l3 l4 l5 l6 l7 l8 l9 : Option Value)  (r : List Value) (σ : zk_S) (sz k c : Nat), zk_run E (zk_VT E) M_X11_addRoom (C_X11_addRoom E) P PX K (n + 1) 100 [l0, l1, l2, l3, l4, l5, l6, l7, l8, l9] r (σ, sz, k, c) = zk_run E (zk_VT E) M_X11_addRoom (C_X11_addRoom E) P PX K n 101 [l0, l1, l2, l3, l4, l5, l6, l7, l8, l9] (.int (0) :: r) (σ, sz, k, c)) ∧
  (∀ (n : Nat) (l0 l1 l2 l3 l4 l5 l6 l7 l8 l9 : Option Value) (x y : Int32) (r : List Value) (σ : zk_S) (sz k c : Nat), zk_run E (zk_VT E) M_X11_addRoom (C_X11_addRoom E) P PX K (n + 1) 101 [l0, l1, l2, l3, l4, l5, l6, l7, l8, l9] (.int y :: .int x :: r) (σ, sz, k, c) = zk_run E (zk_VT E) M_X11_addRoom (C_X11_addRoom E) P PX K n 102 [l0, l1, l2, l3, l4, l5, l6, l7, l8, l9] (.int (x &&& y) :: r) (σ, sz, k, c)) ∧
  (∀ (n : Nat) (l0 l1 l2 l3 l4 l5 l6 l7 l8 l9 : Option Value) (x : Int32) (r : List Value) (σ : zk_S) (sz k c : Nat), zk_run E (zk_VT E) M_X11_addRoom (C_X11_addRoom E) P PX K (n + 1) 102 [l0, l1, l2, l3, l4, l5, l6, l7, l8, l9] (.int x :: r) (σ, sz, k, c) = zk_run E (zk_VT E) M_X11_addRoom (C_X11_addRoom E) P PX K n 104 [l0, l1, l2, l3, l4, l5, l6, zk_kl l7, some (.int x), l9] r (σ, sz, k, c)) ∧
  (∀ (n : Nat) (l0 l1 l2 l3 l4 l5 l6 l7 l8 : Option Value) (y9 : Int32) (r : List Value) (σ : zk_S) (sz k c : Nat), zk_run E (zk_VT E) M_X11_addRoom (C_X11_addRoom E) P PX K (n + 1) 104 [l0, l1, l2, l3, l4, l5, l6, l7, l8, some (.int y9)] r (σ, sz, k, c) = zk_run E (zk_VT E) M_X11_addRoom (C_X11_addRoom E) P PX K n 107 [l0, l1, l2, l3, l4, l5, l6, l7, zk_kl l8, some (.int (y9 + 1))] r (σ, sz, k, c)) ∧
  (∀ (n : Nat) (l0 l1 l2 l3 l4 l5 l6 l7 l8 l9 : Option Value)  (r : List Value) (σ : zk_S) (sz k c : Nat), zk_run E (zk_VT E) M_X11_addRoom (C_X11_addRoom E) P PX K (n + 1) 107 [l0, l1, l2, l3, l4, l5, l6, l7, l8, l9] r (σ, sz, k, c) = zk_run E (zk_VT E) M_X11_addRoom (C_X11_addRoom E) P PX K n 57 [l0, l1, l2, l3, l4, l5, l6, l7, l8, l9] r (σ, sz, k, c)) ∧
  (∀ (n : Nat) (l1 l2 l3 l4 l5 l6 l7 l8 l9 : Option Value) (y0 : Value) (r : List Value) (σ : zk_S) (sz k c : Nat), zk_run E (zk_VT E) M_X11_addRoom (C_X11_addRoom E) P PX K (n + 1) 110 [some y0, l1, l2, l3, l4, l5, l6, l7, l8, l9] r (σ, sz, k, c) = (zk_isr y0 ∧ zk_run E (zk_VT E) M_X11_addRoom (C_X11_addRoom E) P PX K n 111 [some y0, l1, l2, l3, l4, l5, l6, l7, l8, l9] (y0 :: r) (σ, sz, k, c))) ∧
  (∀ (n : Nat) (l0 l1 l2 l3 l4 l5 l6 l7 l8 l9 : Option Value) (a : Nat) (r : List Value) (σ : zk_S) (sz k c : Nat), zk_run E (zk_VT E) M_X11_addRoom (C_X11_addRoom E) P PX K (n + 1) 111 [l0, l1, l2, l3, l4, l5, l6, l7, l8, l9] (.ref a :: r) (σ, sz, k, c) = zk_fld (zk_view E σ a) [10] 0 (fun v => zk_run E (zk_VT E) M_X11_addRoom (C_X11_addRoom E) P PX K n 114 [l0, l1, l2, l3, l4, l5, l6, l7, l8, l9] (v :: r) (σ, sz, k, c))) ∧
  (∀ (n : Nat) (l0 l2 l3 l4 l5 l6 l7 l8 l9 : Option Value) (y1 : Int32) (r : List Value) (σ : zk_S) (sz k c : Nat), zk_run E (zk_VT E) M_X11_addRoom (C_X11_addRoom E) P PX K (n + 1) 114 [l0, some (.int y1), l2, l3, l4, l5, l6, l7, l8, l9] r (σ, sz, k, c) = zk_run E (zk_VT E) M_X11_addRoom (C_X11_addRoom E) P PX K n 115 [l0, some (.int y1), l2, l3, l4, l5, l6, l7, l8, l9] (.int y1 :: r) (σ, sz, k, c)) ∧
  (∀ (n : Nat) (l0 l1 l3 l4 l5 l6 l7 l8 l9 : Option Value) (y2 : Int32) (r : List Value) (σ : zk_S) (sz k c : Nat), zk_run E (zk_VT E) M_X11_addRoom (C_X11_addRoom E) P PX K (n + 1) 115 [l0, l1, some (.int y2), l3, l4, l5, l6, l7, l8, l9] r (σ, sz, k, c) = zk_run E (zk_VT E) M_X11_addRoom (C_X11_addRoom E) P PX K n 116 [l0, l1, some (.int y2), l3, l4, l5, l6, l7, l8, l9] (.int y2 :: r) (σ, sz, k, c)) ∧
  (∀ (n : Nat) (l0 l1 l2 l4 l5 l6 l7 l8 l9 : Option Value) (y3 : Int32) (r : List Value) (σ : zk_S) (sz k c : Nat), zk_run E (zk_VT E) M_X11_addRoom (C_X11_addRoom E) P PX K (n + 1) 116 [l0, l1, l2, some (.int y3), l4, l5, l6, l7, l8, l9] r (σ, sz, k, c) = zk_run E (zk_VT E) M_X11_addRoom (C_X11_addRoom E) P PX K n 117 [l0, l1, l2, some (.int y3), l4, l5, l6, l7, l8, l9] (.int y3 :: r) (σ, sz, k, c)) ∧
  (∀ (n : Nat) (l0 l1 l2 l3 l5 l6 l7 l8 l9 : Option Value) (y4 : Int32) (r : List Value) (σ : zk_S) (sz k c : Nat), zk_run E (zk_VT E) M_X11_addRoom (C_X11_addRoom E) P PX K (n + 1) 117 [l0, l1, l2, l3, some (.int y4), l5, l6, l7, l8, l9] r (σ, sz, k, c) = zk_run E (zk_VT E) M_X11_addRoom (C_X11_addRoom E) P PX K n 119 [l0, l1, l2, l3, some (.int y4), l5, l6, l7, l8, l9] (.int y4 :: r) (σ, sz, k, c)) ∧
  (∀ (n : Nat) (l0 l1 l2 l3 l4 l6 l7 l8 l9 : Option Value) (y5 : Int32) (r : List Value) (σ : zk_S) (sz k c : Nat), zk_run E (zk_VT E) M_X11_addRoom (C_X11_addRoom E) P PX K (n + 1) 119 [l0, l1, l2, l3, l4, some (.int y5), l6, l7, l8, l9] r (σ, sz, k, c) = zk_run E (zk_VT E) M_X11_addRoom (C_X11_addRoom E) P PX K n 121 [l0, l1, l2, l3, l4, some (.int y5), l6, l7, l8, l9] (.int y5 :: r) (σ, sz, k, c)) ∧
  (∀ (n : Nat) (l0 l1 l2 l3 l4 l5 l7 l8 l9 : Option Value) (y6 : Int32) (r : List Value) (σ : zk_S) (sz k c : Nat), zk_run E (zk_VT E) M_X11_addRoom (C_X11_addRoom E) P PX K (n + 1) 121 [l0, l1, l2, l3, l4, l5, some (.int y6), l7, l8, l9] r (σ, sz, k, c) = zk_run E (zk_VT E) M_X11_addRoom (C_X11_addRoom E) P PX K n 123 [l0, l1, l2, l3, l4, l5, some (.int y6), l7, l8, l9] (.int y6 :: r) (σ, sz, k, c)) ∧
  (∀ (n : Nat) (l0 l1 l2 l3 l4 l5 l6 l7 l8 l9 : Option Value) (v0 : Value) (v1 : Value) (v2 : Value) (v3 : Value) (v4 : Value) (v5 : Value) (v6 : Value)  (σ : zk_S) (sz k c : Nat), zk_run E (zk_VT E) M_X11_addRoom (C_X11_addRoom E) P PX K (n + 1) 123 [l0, l1, l2, l3, l4, l5, l6, l7, l8, l9] [v0, v1, v2, v3, v4, v5, v6] (σ, sz, k, c) = (k + 4 ≤ 5 ∧ c + 26 ≤ 33 ∧ (zk_rv (zk_VT E) (fun ci => Nat.beq ci 9) (sp_X10_addRoom E)) [v6, v5, v4, v3, v2, v1, v0] σ sz (fun v s2 z2 => zk_run E (zk_VT E) M_X11_addRoom (C_X11_addRoom E) P PX K n 126 [l0, l1, l2, l3, l4, l5, l6, l7, l8, l9] (zk_psh v []) (s2, z2, k + 4, c + 26)) (fun X s2 z2 => (match (match Nat.beq 123 123 with
  | true => if X = "java/lang/IllegalStateException" then some 166 else none
  | false => none : Option Nat) with
    | some hp => ∀ q : Nat, zk_run E (zk_VT E) M_X11_addRoom (C_X11_addRoom E) P PX K n hp [l0, l1, l2, l3, l4, l5, l6, l7, l8, l9] [.ref q] (s2, z2, k + 4, c + 26)
    | none => PX X s2 z2)))) ∧
  (∀ (n : Nat) (l0 l1 l2 l3 l4 l5 l6 l7 l8 l9 : Option Value) (x : Int32) (r : List Value) (σ : zk_S) (sz k c : Nat), zk_run E (zk_VT E) M_X11_addRoom (C_X11_addRoom E) P PX K (n + 1) 126 [l0, l1, l2, l3, l4, l5, l6, l7, l8, l9] (.int x :: r) (σ, sz, k, c) = zk_run E (zk_VT E) M_X11_addRoom (C_X11_addRoom E) P PX K n 128 [l0, l1, l2, l3, l4, l5, l6, l7, zk_kl l8, some (.int x)] r (σ, sz, k, c)) ∧
  (∀ (n : Nat) (l1 l2 l3 l4 l5 l6 l7 l8 l9 : Option Value) (y0 : Value) (r : List Value) (σ : zk_S) (sz k c : Nat), zk_run E (zk_VT E) M_X11_addRoom (C_X11_addRoom E) P PX K (n + 1) 128 [some y0, l1, l2, l3, l4, l5, l6, l7, l8, l9] r (σ, sz, k, c) = (zk_isr y0 ∧ zk_run E (zk_VT E) M_X11_addRoom (C_X11_addRoom E) P PX K n 129 [some y0, l1, l2, l3, l4, l5, l6, l7, l8, l9] (y0 :: r) (σ, sz, k, c))) ∧
  (∀ (n : Nat) (l0 l1 l2 l3 l4 l5 l6 l7 l8 l9 : Option Value) (a : Nat) (r : List Value) (σ : zk_S) (sz k c : Nat), zk_run E (zk_VT E) M_X11_addRoom (C_X11_addRoom E) P PX K (n + 1) 129 [l0, l1, l2, l3, l4, l5, l6, l7, l8, l9] (.ref a :: r) (σ, sz, k, c) = zk_fld (zk_view E σ a) [10] 4 (fun v => zk_run E (zk_VT E) M_X11_addRoom (C_X11_addRoom E) P PX K n 132 [l0, l1, l2, l3, l4, l5, l6, l7, l8, l9] (v :: r) (σ, sz, k, c))) := ⟨by intros; rfl, by intros; rfl, by intros; rfl, by intros; rfl, by intros; rfl, by intros; rfl, by intros; rfl, by intros; rfl, by intros; rfl, by intros; rfl, by intros; rfl, by intros; rfl, by intros; rfl, by intros; rfl, by intros; rfl, by intros; rfl, by intros; rfl, by intros; rfl, by intros; rfl, by intros; rfl, by intros; rfl, by intros; rfl, by intros; rfl, by intros; rfl, by intros; rfl, by intros; rfl, by intros; rfl, by intros; rfl, by intros; rfl, by intros; rfl, by intros; rfl, by intros; rfl, by intros; rfl, by intros; rfl, by intros; rfl, by intros; rfl, by intros; rfl, by intros; rfl, by intros; rfl, by intros; rfl⟩
theorem r_X11_addRoom_2 (E : zk_E) (P : zk_P zk_S) (PX : zk_X zk_S) (K : Nat → zk_L → List Value → zk_W zk_S → Prop) : (∀ (n : Nat) (l1 l2 l3 l4 l5 l6 l7 l8 l9 : Option Value) (y0 : Value) (r : List Value) (σ : zk_S) (sz k c : Nat), zk_run E (zk_VT E) M_X11_addRoom (C_X11_addRoom E) P PX K (n + 1) 132 [some y0, l1, l2, l3, l4, l5, l6, l7, l8, l9] r (σ, sz, k, c) = (zk_isr y0 ∧ zk_run E (zk_VT E) M_X11_addRoom (C_X11_addRoom E) P PX K n 133 [some y0, l1, l2, l3, l4, l5, l6, l7, l8, l9] (y0 :: r) (σ, sz, k, c))) ∧
  (∀ (n : Nat) (l0 l1 l2 l3 l4 l5 l6 l7 l8 l9 : Option Value) (a : Nat) (r : List Value) (σ : zk_S) (sz k c : Nat), zk_run E (zk_VT E) M_X11_addRoom (C_X11_addRoom E) P PX K (n + 1) 133 [l0, l1, l2, l3, l4, l5, l6, l7, l8, l9] (.ref a :: r) (σ, sz, k, c) = zk_fld (zk_view E σ a) [10] 3 (fun v => zk_run E (zk_VT E) M_X11_addRoom (C_X11_addRoom E) P PX K n 136 [l0, l1, l2, l3, l4, l5, l6, l7, l8, l9] (v :: r) (σ, sz, k, c))) ∧
  (∀ (n : Nat) (l0 l1 l2 l3 l4 l5 l6 l8 l9 : Option Value) (y7 : Value) (r : List Value) (σ : zk_S) (sz k c : Nat), zk_run E (zk_VT E) M_X11_addRoom (C_X11_addRoom E) P PX K (n + 1) 136 [l0, l1, l2, l3, l4, l5, l6, some y7, l8, l9] r (σ, sz, k, c) = (zk_isr y7 ∧ zk_run E (zk_VT E) M_X11_addRoom (C_X11_addRoom E) P PX K n 138 [l0, l1, l2, l3, l4, l5, l6, some y7, l8, l9] (y7 :: r) (σ, sz, k, c))) ∧
  (∀ (n : Nat) (l0 l1 l2 l3 l4 l5 l6 l7 l8 l9 : Option Value) (a : Nat) (i : Int32) (r : List Value) (σ : zk_S) (sz k c : Nat), zk_run E (zk_VT E) M_X11_addRoom (C_X11_addRoom E) P PX K (n + 1) 138 [l0, l1, l2, l3, l4, l5, l6, l7, l8, l9] (.null :: .int i :: .ref a :: r) (σ, sz, k, c) = zk_qsn (zk_view E σ a) i [zk_ar E 3, zk_ar E 4, zk_ar E 5, zk_ar E 6] (fun e => zk_wrok E σ a e ∧ zk_run E (zk_VT E) M_X11_addRoom (C_X11_addRoom E) P PX K n 139 [l0, l1, l2, l3, l4, l5, l6, l7, l8, l9] r (zk_wr E σ a e, sz, k, c))) ∧
  (∀ (n : Nat) (l0 l1 l2 l3 l4 l5 l6 l7 l8 l9 : Option Value) (a v : Nat) (i : Int32) (r : List Value) (σ : zk_S) (sz k c : Nat), zk_run E (zk_VT E) M_X11_addRoom (C_X11_addRoom E) P PX K (n + 1) 138 [l0, l1, l2, l3, l4, l5, l6, l7, l8, l9] (.ref v :: .int i :: .ref a :: r) (σ, sz, k, c) = zk_qst E (zk_view E σ a) (zk_view E σ v) i v (fun e => zk_wrok E σ a e ∧ zk_run E (zk_VT E) M_X11_addRoom (C_X11_addRoom E) P PX K n 139 [l0, l1, l2, l3, l4, l5, l6, l7, l8, l9] r (zk_wr E σ a e, sz, k, c))) ∧
  (∀ (n : Nat) (l0 l1 l2 l3 l4 l5 l6 l7 l9 : Option Value) (y8 : Int32) (r : List Value) (σ : zk_S) (sz k c : Nat), zk_run E (zk_VT E) M_X11_addRoom (C_X11_addRoom E) P PX K (n + 1) 139 [l0, l1, l2, l3, l4, l5, l6, l7, some (.int y8), l9] r (σ, sz, k, c) = zk_run E (zk_VT E) M_X11_addRoom (C_X11_addRoom E) P PX K n 141 [l0, l1, l2, l3, l4, l5, l6, l7, some (.int y8), l9] (.int y8 :: r) (σ, sz, k, c)) ∧
  (∀ (n : Nat) (l0 l1 l2 l3 l4 l5 l6 l7 l8 l9 : Option Value) (x : Int32) (r : List Value) (σ : zk_S) (sz k c : Nat), zk_run E (zk_VT E) M_X11_addRoom (C_X11_addRoom E) P PX K (n + 1) 141 [l0, l1, l2, l3, l4, l5, l6, l7, l8, l9] (.int x :: r) (σ, sz, k, c) = ((x = 0 → zk_run E (zk_VT E) M_X11_addRoom (C_X11_addRoom E) P PX K n 164 [l0, l1, l2, l3, l4, l5, l6, l7, l8, l9] r (σ, sz, k, c)) ∧ (¬ (x = 0) → zk_run E (zk_VT E) M_X11_addRoom (C_X11_addRoom E) P PX K n 144 [l0, l1, l2, l3, l4, l5, l6, l7, l8, l9] r (σ, sz, k, c)))) ∧
  (∀ (n : Nat) (l0 l1 l2 l3 l4 l5 l6 l7 l8 : Option Value) (y9 : Int32) (r : List Value) (σ : zk_S) (sz k c : Nat), zk_run E (zk_VT E) M_X11_addRoom (C_X11_addRoom E) P PX K (n + 1) 144 [l0, l1, l2, l3, l4, l5, l6, l7, l8, some (.int y9)] r (σ, sz, k, c) = zk_run E (zk_VT E) M_X11_addRoom (C_X11_addRoom E) P PX K n 146 [l0, l1, l2, l3, l4, l5, l6, l7, l8, some (.int y9)] (.int y9 :: r) (σ, sz, k, c)) ∧
  (∀ (n : Nat) (l1 l2 l3 l4 l5 l6 l7 l8 l9 : Option Value) (y0 : Value) (r : List Value) (σ : zk_S) (sz k c : Nat), zk_run E (zk_VT E) M_X11_addRoom (C_X11_addRoom E) P PX K (n + 1) 146 [some y0, l1, l2, l3, l4, l5, l6, l7, l8, l9] r (σ, sz, k, c) = (zk_isr y0 ∧ zk_run E (zk_VT E) M_X11_addRoom (C_X11_addRoom E) P PX K n 147 [some y0, l1, l2, l3, l4, l5, l6, l7, l8, l9] (y0 :: r) (σ, sz, k, c))) ∧
  (∀ (n : Nat) (l0 l1 l2 l3 l4 l5 l6 l7 l8 l9 : Option Value) (v : Value) (r : List Value) (σ : zk_S) (sz k c : Nat), zk_run E (zk_VT E) M_X11_addRoom (C_X11_addRoom E) P PX K (n + 1) 147 [l0, l1, l2, l3, l4, l5, l6, l7, l8, l9] (v :: r) (σ, sz, k, c) = (zk_c1 v ∧ zk_run E (zk_VT E) M_X11_addRoom (C_X11_addRoom E) P PX K n 148 [l0, l1, l2, l3, l4, l5, l6, l7, l8, l9] (v :: v :: r) (σ, sz, k, c))) ∧
  (∀ (n : Nat) (l0 l1 l2 l3 l4 l5 l6 l7 l8 l9 : Option Value) (a : Nat) (r : List Value) (σ : zk_S) (sz k c : Nat), zk_run E (zk_VT E) M_X11_addRoom (C_X11_addRoom E) P PX K (n + 1) 148 [l0, l1, l2, l3, l4, l5, l6, l7, l8, l9] (.ref a :: r) (σ, sz, k, c) = zk_fld (zk_view E σ a) [10] 3 (fun v => zk_run E (zk_VT E) M_X11_addRoom (C_X11_addRoom E) P PX K n 151 [l0, l1, l2, l3, l4, l5, l6, l7, l8, l9] (v :: r) (σ, sz, k, c))) ∧
  (∀ (n : Nat) (l0 l1 l2 l3 l4 l5 l6 l7 l8 l9 : Option Value) (v u : Value) (r : List Value) (σ : zk_S) (sz k c : Nat), zk_run E (zk_VT E) M_X11_addRoom (C_X11_addRoom E) P PX K (n + 1) 151 [l0, l1, l2, l3, l4, l5, l6, l7, l8, l9] (v :: u :: r) (σ, sz, k, c) = (zk_c1 v ∧ zk_c1 u ∧ zk_run E (zk_VT E) M_X11_addRoom (C_X11_addRoom E) P PX K n 152 [l0, l1, l2, l3, l4, l5, l6, l7, l8, l9] (v :: u :: v :: r) (σ, sz, k, c))) ∧
  (∀ (n : Nat) (l0 l1 l2 l3 l4 l5 l6 l7 l8 l9 : Option Value)  (r : List Value) (σ : zk_S) (sz k c : Nat), zk_run E (zk_VT E) M_X11_addRoom (C_X11_addRoom E) P PX K (n + 1) 152 [l0, l1, l2, l3, l4, l5, l6, l7, l8, l9] r (σ, sz, k, c) = zk_run E (zk_VT E) M_X11_addRoom (C_X11_addRoom E) P PX K n 153 [l0, l1, l2, l3, l4, l5, l6, l7, l8, l9] (.int (1) :: r) (σ, sz, k, c)) ∧
  (∀ (n : Nat) (l0 l1 l2 l3 l4 l5 l6 l7 l8 l9 : Option Value) (x y : Int32) (r : List Value) (σ : zk_S) (sz k c : Nat), zk_run E (zk_VT E) M_X11_addRoom (C_X11_addRoom E) P PX K (n + 1) 153 [l0, l1, l2, l3, l4, l5, l6, l7, l8, l9] (.int y :: .int x :: r) (σ, sz, k, c) = zk_run E (zk_VT E) M_X11_addRoom (C_X11_addRoom E) P PX K n 154 [l0, l1, l2, l3, l4, l5, l6, l7, l8, l9] (.int (x + y) :: r) (σ, sz, k, c)) ∧
  (∀ (n : Nat) (l0 l1 l2 l3 l4 l5 l6 l7 l8 l9 : Option Value) (a : Nat) (v : Value) (r : List Value) (σ : zk_S) (sz k c : Nat), zk_run E (zk_VT E) M_X11_addRoom (C_X11_addRoom E) P PX K (n + 1) 154 [l0, l1, l2, l3, l4, l5, l6, l7, l8, l9] (v :: .ref a :: r) (σ, sz, k, c) = zk_put (zk_view E σ a) [10] 3 0 v (zk_pfok E σ a 3 v ∧ zk_run E (zk_VT E) M_X11_addRoom (C_X11_addRoom E) P PX K n 157 [l0, l1, l2, l3, l4, l5, l6, l7, l8, l9] r (zk_pf E σ a 3 v, sz, k, c))) ∧
  (∀ (n : Nat) (l0 l1 l2 l3 l4 l5 l6 l7 l8 l9 : Option Value) (x y : Int32) (r : List Value) (σ : zk_S) (sz k c : Nat), zk_run E (zk_VT E) M_X11_addRoom (C_X11_addRoom E) P PX K (n + 1) 157 [l0, l1, l2, l3, l4, l5, l6, l7, l8, l9] (.int y :: .int x :: r) (σ, sz, k, c) = ((¬ x = y → zk_run E (zk_VT E) M_X11_addRoom (C_X11_addRoom E) P PX K n 164 [l0, l1, l2, l3, l4, l5, l6, l7, l8, l9] r (σ, sz, k, c)) ∧ (¬ (¬ x = y) → zk_run E (zk_VT E) M_X11_addRoom (C_X11_addRoom E) P PX K n 160 [l0, l1, l2, l3, l4, l5, l6, l7, l8, l9] r (σ, sz, k, c)))) ∧
  (∀ (n : Nat) (l0 l1 l2 l3 l4 l5 l6 l7 l8 l9 : Option Value)  (r : List Value) (σ : zk_S) (sz k c : Nat), zk_run E (zk_VT E) M_X11_addRoom (C_X11_addRoom E) P PX K (n + 1) 160 [l0, l1, l2, l3, l4, l5, l6, l7, l8, l9] r (σ, sz, k, c) = zk_run E (zk_VT E) M_X11_addRoom (C_X11_addRoom E) P PX K n 161 [l0, l1, l2, l3, l4, l5, l6, l7, l8, l9] (.int (1) :: r) (σ, sz, k, c)) ∧
  (∀ (n : Nat) (l0 l1 l2 l3 l4 l5 l6 l7 l8 l9 : Option Value)  (r : List Value) (σ : zk_S) (sz k c : Nat), zk_run E (zk_VT E) M_X11_addRoom (C_X11_addRoom E) P PX K (n + 1) 161 [l0, l1, l2, l3, l4, l5, l6, l7, l8, l9] r (σ, sz, k, c) = zk_run E (zk_VT E) M_X11_addRoom (C_X11_addRoom E) P PX K n 165 [l0, l1, l2, l3, l4, l5, l6, l7, l8, l9] r (σ, sz, k, c)) ∧
  (∀ (n : Nat) (l0 l1 l2 l3 l4 l5 l6 l7 l8 l9 : Option Value)  (r : List Value) (σ : zk_S) (sz k c : Nat), zk_run E (zk_VT E) M_X11_addRoom (C_X11_addRoom E) P PX K (n + 1) 164 [l0, l1, l2, l3, l4, l5, l6, l7, l8, l9] r (σ, sz, k, c) = zk_run E (zk_VT E) M_X11_addRoom (C_X11_addRoom E) P PX K n 165 [l0, l1, l2, l3, l4, l5, l6, l7, l8, l9] (.int (0) :: r) (σ, sz, k, c)) ∧
  (∀ (n : Nat) (l0 l1 l2 l3 l4 l5 l6 l7 l8 l9 : Option Value) (x : Int32)  (σ : zk_S) (sz k c : Nat), zk_run E (zk_VT E) M_X11_addRoom (C_X11_addRoom E) P PX K (n + 1) 165 [l0, l1, l2, l3, l4, l5, l6, l7, l8, l9] [.int x] (σ, sz, k, c) = (zk_nok (some (.boolean)) x ∧ P (some (.int x)) σ sz ∧ k ≤ 5 ∧ c ≤ 33)) ∧
  (∀ (n : Nat) (l0 l1 l2 l3 l4 l5 l6 l7 l8 l9 : Option Value) (x : Value) (r : List Value) (σ : zk_S) (sz k c : Nat), zk_run E (zk_VT E) M_X11_addRoom (C_X11_addRoom E) P PX K (n + 1) 166 [l0, l1, l2, l3, l4, l5, l6, l7, l8, l9] (x :: r) (σ, sz, k, c) = (zk_isr x ∧ zk_run E (zk_VT E) M_X11_addRoom (C_X11_addRoom E) P PX K n 168 [l0, l1, l2, l3, l4, l5, l6, l7, zk_kl l8, some (x)] r (σ, sz, k, c))) ∧
  (∀ (n : Nat) (l0 l1 l2 l3 l4 l5 l6 l7 l9 : Option Value) (y8 : Int32) (r : List Value) (σ : zk_S) (sz k c : Nat), zk_run E (zk_VT E) M_X11_addRoom (C_X11_addRoom E) P PX K (n + 1) 168 [l0, l1, l2, l3, l4, l5, l6, l7, some (.int y8), l9] r (σ, sz, k, c) = zk_run E (zk_VT E) M_X11_addRoom (C_X11_addRoom E) P PX K n 170 [l0, l1, l2, l3, l4, l5, l6, l7, some (.int y8), l9] (.int y8 :: r) (σ, sz, k, c)) ∧
  (∀ (n : Nat) (l0 l1 l2 l3 l4 l5 l6 l7 l8 l9 : Option Value) (x : Int32) (r : List Value) (σ : zk_S) (sz k c : Nat), zk_run E (zk_VT E) M_X11_addRoom (C_X11_addRoom E) P PX K (n + 1) 170 [l0, l1, l2, l3, l4, l5, l6, l7, l8, l9] (.int x :: r) (σ, sz, k, c) = ((¬ x = 0 → zk_run E (zk_VT E) M_X11_addRoom (C_X11_addRoom E) P PX K n 177 [l0, l1, l2, l3, l4, l5, l6, l7, l8, l9] r (σ, sz, k, c)) ∧ (¬ (¬ x = 0) → zk_run E (zk_VT E) M_X11_addRoom (C_X11_addRoom E) P PX K n 173 [l0, l1, l2, l3, l4, l5, l6, l7, l8, l9] r (σ, sz, k, c)))) ∧
  (∀ (n : Nat) (l0 l1 l2 l3 l4 l5 l6 l7 l8 l9 : Option Value)  (r : List Value) (σ : zk_S) (sz k c : Nat), zk_run E (zk_VT E) M_X11_addRoom (C_X11_addRoom E) P PX K (n + 1) 173 [l0, l1, l2, l3, l4, l5, l6, l7, l8, l9] r (σ, sz, k, c) = zk_run E (zk_VT E) M_X11_addRoom (C_X11_addRoom E) P PX K n 174 [l0, l1, l2, l3, l4, l5, l6, l7, l8, l9] (.int (1) :: r) (σ, sz, k, c)) ∧
  (∀ (n : Nat) (l0 l1 l2 l3 l4 l5 l6 l7 l8 l9 : Option Value)  (r : List Value) (σ : zk_S) (sz k c : Nat), zk_run E (zk_VT E) M_X11_addRoom (C_X11_addRoom E) P PX K (n + 1) 174 [l0, l1, l2, l3, l4, l5, l6, l7, l8, l9] r (σ, sz, k, c) = zk_run E (zk_VT E) M_X11_addRoom (C_X11_addRoom E) P PX K n 178 [l0, l1, l2, l3, l4, l5, l6, l7, l8, l9] r (σ, sz, k, c)) ∧
  (∀ (n : Nat) (l0 l1 l2 l3 l4 l5 l6 l7 l8 l9 : Option Value)  (r : List Value) (σ : zk_S) (sz k c : Nat), zk_run E (zk_VT E) M_X11_addRoom (C_X11_addRoom E) P PX K (n + 1) 177 [l0, l1, l2, l3, l4, l5, l6, l7, l8, l9] r (σ, sz, k, c) = zk_run E (zk_VT E) M_X11_addRoom (C_X11_addRoom E) P PX K n 178 [l0, l1, l2, l3, l4, l5, l6, l7, l8, l9] (.int (0) :: r) (σ, sz, k, c)) ∧
  (∀ (n : Nat) (l0 l1 l2 l3 l4 l5 l6 l7 l8 l9 : Option Value) (x : Int32)  (σ : zk_S) (sz k c : Nat), zk_run E (zk_VT E) M_X11_addRoom (C_X11_addRoom E) P PX K (n + 1) 178 [l0, l1, l2, l3, l4, l5, l6, l7, l8, l9] [.int x] (σ, sz, k, c) = (zk_nok (some (.boolean)) x ∧ P (some (.int x)) σ sz ∧ k ≤ 5 ∧ c ≤ 33)) ∧
  (∀ (n : Nat) (l0 l1 l2 l3 l4 l5 l6 l7 l8 l9 : Option Value) (r : List Value) (w : zk_W zk_S), zk_go E (zk_VT E) M_X11_addRoom (C_X11_addRoom E) P PX K n 0 [l0, l1, l2, l3, l4, l5, l6, l7, l8, l9] r w = zk_run E (zk_VT E) M_X11_addRoom (C_X11_addRoom E) P PX K (n + 1) 0 [l0, l1, l2, l3, l4, l5, l6, l7, l8, l9] r w) ∧
  (∀ (n : Nat) (l0 l1 l2 l3 l4 l5 l6 l7 l8 : Option Value) (y9 : Int32) (r : List Value) (σ : zk_S) (sz k c : Nat), zk_go E (zk_VT E) M_X11_addRoom (C_X11_addRoom E) P PX K n 57 [l0, l1, l2, l3, l4, l5, l6, l7, l8, some (.int y9)] r (σ, sz, k, c) = zk_run E (zk_VT E) M_X11_addRoom (C_X11_addRoom E) P PX K n 59 [l0, l1, l2, l3, l4, l5, l6, l7, l8, some (.int y9)] (.int y9 :: r) (σ, sz, k, c)) := ⟨by intros; rfl, by intros; rfl, by intros; rfl, by intros; rfl, by intros; rfl, by intros; rfl, by intros; rfl, by intros; rfl, by intros; rfl, by intros; rfl, by intros; rfl, by intros; rfl, by intros; rfl, by intros; rfl, by intros; rfl, by intros; rfl, by intros; rfl, by intros; rfl, by intros; rfl, by intros; rfl, by intros; rfl, by intros; rfl, by intros; rfl, by intros; rfl, by intros; rfl, by intros; rfl, by intros; rfl, by intros; rfl, by intros; rfl⟩
set_option maxHeartbeats 16000000 in
theorem vc_X11_addRoom (E : zk_E) : zk_VCH E (zk_VT E) M_X11_addRoom (C_X11_addRoom E) 10 (sp_X11_addRoom E) := by
  intro av σ sz P h
  obtain ⟨J, N, Q, O, U⟩ := σ
  unfold sp_X11_addRoom at h
  split at h
  case h_2 => exact h.elim
  rename_i a0 fl x y w hh u
  obtain ⟨rfl, h⟩ := h
  refine ⟨Nat.le_of_ble_eq_true rfl, fun G hG => ?_⟩
  change G 0 [some (.ref (zk_ad E 22)), some (.int fl), some (.int x), some (.int y), some (.int w), some (.int hh), some (.int u), none, none, none] [] ((J, N, Q, O, U), sz, 0, 0)
  try dsimp only at h
  obtain ⟨Jg, Ng, d, hhi, hn, hok, h1, h2⟩ := h
  have hhi' := hhi
  obtain ⟨hic, hhr, hU, hd2, hsz⟩ := hhi
  have hmi := hic.1
  have hnr : J 22 3 = nI (m_nr Jg) := hhr.nr hmi.1
  have c20 : ¬ (20 : Int32) ≤ nI (m_nr Jg) := (nI_ge (b := 20) hn (by decide) : ¬ nI 20 ≤ nI (m_nr Jg))
  obtain ⟨⟨nf, -, nf2, rfl⟩, ⟨nx, -, nx2, rfl⟩, ⟨ny, -, ny2, rfl⟩, ⟨nw, nw1, nw2, rfl⟩, ⟨nh, nh1, nh2, rfl⟩, -⟩ := okR_nat hok
  generalize eg : upd (upd (upd (upd (upd (upd (upd (fun _ => (0 : Int32)) 0 (nI nf)) 1 (nI nx)) 2 (nI ny)) 3 (nI nw)) 4 (nI nh)) 5 u) 6 0 = g
  have hg : g 0 = nI nf ∧ g 1 = nI nx ∧ g 2 = nI ny ∧ g 3 = nI nw ∧ g 4 = nI nh ∧ g 5 = u ∧ g 6 = 0 := by
    rw [← eg]
    exact ⟨rfl, rfl, rfl, rfl, rfl, rfl, rfl⟩
  have hsz1 : E.1 + 28 ≤ sz + 1 := by omega
  have hOn : zk_up O sz (.inl (zk_ar E 0, 7, .inl g)) sz = some (.inl (zk_ar E 0, 7, .inl g)) := zk_up_same _ _ _
  have hrfg : RF g nx ny nw nh := ⟨hg.2.1, hg.2.2.1, hg.2.2.2.1, hg.2.2.2.2.1, by omega, by omega, by omega, by omega⟩
  have hc : c_room Jg Ng (nI nf) (nI nx) (nI ny) (nI nw) (nI nh) u = if m_ex (m_hit Ng (nI nf) (nI nx) (nI ny) (nI nw) (nI nh)) (m_nr Jg) = true then 2 else 0 := by
    unfold c_room
    rw [if_neg (by rw [hok]; decide), if_neg (by omega)]
  have kb : Nat.beq 123 123 = true := rfl
  have hic1 : IC E (sz + 1) (J, N, Q, zk_up O sz (.inl (zk_ar E 0, 7, .inl g)), U) Jg Ng := hic.grow (fun q hq => zk_up_ne _ _ (by omega)) (by omega)
  have b1 : ∀ b, zk_b b &&& 1 = zk_b b := fun b => by cases b <;> rfl
  have b0 : ∀ b, zk_b b &&& 0 = 0 := fun b => by cases b <;> rfl
  have c10 : ¬ (1 : Int32) = 0 := by decide
  have loop : ∀ m k, k + m = m_nr Jg → G 57 [some (.ref (zk_ad E 22)), some (.int (nI nf)), some (.int (nI nx)), some (.int (nI ny)), some (.int (nI nw)), some (.int (nI nh)), some (.int u), some (.ref sz), some (.int (zk_b (!m_ex (m_hit Ng (nI nf) (nI nx) (nI ny) (nI nw) (nI nh)) k))), some (.int (nI k))] [] ((J, N, Q, zk_up O sz (.inl (zk_ar E 0, 7, .inl g)), U), sz + 1, 1, 7) := by
    intro m
    induction m with
    | zero =>
      intro k hk
      have ek : k = m_nr Jg := by omega
      subst ek
      have c1 : nI (m_nr Jg) ≤ nI (m_nr Jg) := nI_le (by omega) (by omega)
      cases q8 : m_ex (m_hit Ng (nI nf) (nI nx) (nI ny) (nI nw) (nI nh)) (m_nr Jg) with
      | false =>
        have h1 := h1 q8
        rw [q8, if_neg (by decide)] at hc
        (refine hG 900 _ _ _ _ ?_; simp only [r_X11_addRoom, r_X11_addRoom_1, r_X11_addRoom_2, zk_kl_none, zk_kl_int, zk_kl_ref, zk_kl_null, zk_kl_long, zk_kl_rf, zk_isr_ref, zk_isr_null, zk_isr_rf9, zk_c1_int, zk_c1_ref, zk_c1_null, zk_c1_rf, zk_psh_some, zk_psh_none, zk_nok_int, zk_nok_bool0, zk_nok_bool1, zk_nok_b, zk_fok_0, zk_fok_1, zk_fok_2, zk_fok_n, zk_fok_rf, zb_f, zb_p, zb_i, zb_a, zb_s, zk_nth_0, zk_nth_s, zk_fld_o, zk_put_o, zk_rv_eq, zk_ri_eq, zk_is_o, List.mem_cons, List.not_mem_nil, or_false, false_or, or_true, true_or, and_true, true_and, not_false_iff, not_true_eq_false, true_implies, false_implies, imp_self, implies_true, forall_const, zk_lit, zk_uj_ap, zk_un_ap, zk_un_un, zk_uj_uj, Nat.reduceEqDiff, eq_self, zk_bq, Bool.true_or, Bool.false_or, Nat.le_refl, Nat.zero_add, Nat.add_zero, Nat.reduceAdd, Nat.reduceLeDiff, Nat.le_zero_eq, and_self, and_false, false_and, ite_true, ite_false, Nat.zero_le, List.length_cons, List.length_nil, Option.some.injEq, forall_eq', reduceCtorEq, hnr, c1, spe_X10_addRoom])
        refine ⟨by omega, Jg, Ng, hic1, fun e => absurd (hc.symm.trans e) (by decide), fun e => absurd (hc.symm.trans e) (by decide), fun _ => ?_⟩
        refine fun J2 N2 Q2 O2 z2 hz h0 hJ hN hQO hx => ?_
        have hJ3 : J2 22 3 = nI (m_nr Jg) := by rw [hJ 22 (Nat.le_refl _)]; exact hnr
        have hO2 : O2 sz = some (.inl (zk_ar E 0, 7, .inl g)) := (hQO.2 sz (by omega) ⟨_, _, _, hOn⟩).trans hOn
        have hin : vp_in (nI (m_nr Jg)) 20 := n_in hn (by decide)
        have hcl : (nI (m_nr Jg)).toNatClampNeg = m_nr Jg := n_cl (by omega)
        have h := h1 _ _ (hhi'.addR hn hok hg hz h0 hJ hQO.1 hQO.2 hx)
        have zt : zk_b (!false) = 1 := rfl
        try simp only [r_X11_addRoom, r_X11_addRoom_1, r_X11_addRoom_2, zk_kl_none, zk_kl_int, zk_kl_ref, zk_kl_null, zk_kl_long, zk_kl_rf, zk_isr_ref, zk_isr_null, zk_isr_rf9, zk_c1_int, zk_c1_ref, zk_c1_null, zk_c1_rf, zk_psh_some, zk_psh_none, zk_nok_int, zk_nok_bool0, zk_nok_bool1, zk_nok_b, zk_fok_0, zk_fok_1, zk_fok_2, zk_fok_n, zk_fok_rf, zb_f, zb_p, zb_i, zb_a, zb_s, zk_nth_0, zk_nth_s, zk_fld_o, zk_put_o, zk_rv_eq, zk_ri_eq, zk_is_o, List.mem_cons, List.not_mem_nil, or_false, false_or, or_true, true_or, and_true, true_and, not_false_iff, not_true_eq_false, true_implies, false_implies, imp_self, implies_true, forall_const, zk_lit, zk_uj_ap, zk_un_ap, zk_un_un, zk_uj_uj, Nat.reduceEqDiff, eq_self, zk_bq, Bool.true_or, Bool.false_or, Nat.le_refl, Nat.zero_add, Nat.add_zero, Nat.reduceAdd, Nat.reduceLeDiff, Nat.le_zero_eq, and_self, and_false, false_and, ite_true, ite_false, Nat.zero_le, List.length_cons, List.length_nil, Option.some.injEq, forall_eq', reduceCtorEq, hJ3, hin, hcl, zk_vd hsz, hsz, hO2, zt, c10, n_succ]
        exact h
      | true =>
        have h2 := h2 q8
        rw [q8, if_pos rfl] at hc
        (refine hG 900 _ _ _ _ ?_; simp only [r_X11_addRoom, r_X11_addRoom_1, r_X11_addRoom_2, zk_kl_none, zk_kl_int, zk_kl_ref, zk_kl_null, zk_kl_long, zk_kl_rf, zk_isr_ref, zk_isr_null, zk_isr_rf9, zk_c1_int, zk_c1_ref, zk_c1_null, zk_c1_rf, zk_psh_some, zk_psh_none, zk_nok_int, zk_nok_bool0, zk_nok_bool1, zk_nok_b, zk_fok_0, zk_fok_1, zk_fok_2, zk_fok_n, zk_fok_rf, zb_f, zb_p, zb_i, zb_a, zb_s, zk_nth_0, zk_nth_s, zk_fld_o, zk_put_o, zk_rv_eq, zk_ri_eq, zk_is_o, List.mem_cons, List.not_mem_nil, or_false, false_or, or_true, true_or, and_true, true_and, not_false_iff, not_true_eq_false, true_implies, false_implies, imp_self, implies_true, forall_const, zk_lit, zk_uj_ap, zk_un_ap, zk_un_un, zk_uj_uj, Nat.reduceEqDiff, eq_self, zk_bq, Bool.true_or, Bool.false_or, Nat.le_refl, Nat.zero_add, Nat.add_zero, Nat.reduceAdd, Nat.reduceLeDiff, Nat.le_zero_eq, and_self, and_false, false_and, ite_true, ite_false, Nat.zero_le, List.length_cons, List.length_nil, Option.some.injEq, forall_eq', reduceCtorEq, hnr, c1, spe_X10_addRoom])
        refine ⟨by omega, Jg, Ng, hic1, fun e => absurd (hc.symm.trans e) (by decide), fun _ => ?_, fun e => absurd (hc.symm.trans e) (by decide)⟩
        refine fun O2 z2 hz hO => ?_
        have h := h2 _ _ (hhi'.grow (O2 := O2) (z2 := z2) (fun q hq => (hO q (by omega)).trans (zk_up_ne _ _ (by omega))) (by omega))
        have zt : zk_b (!true) = 0 := rfl
        try simp only [r_X11_addRoom, r_X11_addRoom_1, r_X11_addRoom_2, zk_kl_none, zk_kl_int, zk_kl_ref, zk_kl_null, zk_kl_long, zk_kl_rf, zk_isr_ref, zk_isr_null, zk_isr_rf9, zk_c1_int, zk_c1_ref, zk_c1_null, zk_c1_rf, zk_psh_some, zk_psh_none, zk_nok_int, zk_nok_bool0, zk_nok_bool1, zk_nok_b, zk_fok_0, zk_fok_1, zk_fok_2, zk_fok_n, zk_fok_rf, zb_f, zb_p, zb_i, zb_a, zb_s, zk_nth_0, zk_nth_s, zk_fld_o, zk_put_o, zk_rv_eq, zk_ri_eq, zk_is_o, List.mem_cons, List.not_mem_nil, or_false, false_or, or_true, true_or, and_true, true_and, not_false_iff, not_true_eq_false, true_implies, false_implies, imp_self, implies_true, forall_const, zk_lit, zk_uj_ap, zk_un_ap, zk_un_un, zk_uj_uj, Nat.reduceEqDiff, eq_self, zk_bq, Bool.true_or, Bool.false_or, Nat.le_refl, Nat.zero_add, Nat.add_zero, Nat.reduceAdd, Nat.reduceLeDiff, Nat.le_zero_eq, and_self, and_false, false_and, ite_true, ite_false, Nat.zero_le, List.length_cons, List.length_nil, Option.some.injEq, forall_eq', reduceCtorEq, kb, zt]
        exact h
    | succ m ih =>
      intro k hk
      have c1 : ¬ nI (m_nr Jg) ≤ nI k := nI_ge (by omega) (by omega)
      have ih2 := ih (k + 1) (by omega)
      rw [m_ex] at ih2
      obtain ⟨a, f, hq, ha, haz, hO, hgm⟩ := hhr.room (j := k) (by omega)
      have hO1 : zk_up O sz (.inl (zk_ar E 0, 7, .inl g)) a = some (.inl (zk_ar E 0, 7, .inl f)) := (zk_up_ne _ _ (by omega)).trans hO
      have hin : vp_in (nI k) 20 := n_in (by omega) (by decide)
      have hcl : (nI k).toNatClampNeg = k := n_cl (by omega)
      have nof : ¬ f 0 = nI nf → m_hit Ng (nI nf) (nI nx) (nI ny) (nI nw) (nI nh) k = false → G 57 [some (.ref (zk_ad E 22)), some (.int (nI nf)), some (.int (nI nx)), some (.int (nI ny)), some (.int (nI nw)), some (.int (nI nh)), some (.int u), some (.ref sz), some (.int (zk_b (!m_ex (m_hit Ng (nI nf) (nI nx) (nI ny) (nI nw) (nI nh)) k))), some (.int (nI k))] [] ((J, N, Q, zk_up O sz (.inl (zk_ar E 0, 7, .inl g)), U), sz + 1, 1, 7) := fun n1 n2 => by
        rw [n2, Bool.or_false] at ih2
        (refine hG 900 _ _ _ _ ?_; simp only [r_X11_addRoom, r_X11_addRoom_1, r_X11_addRoom_2, zk_kl_none, zk_kl_int, zk_kl_ref, zk_kl_null, zk_kl_long, zk_kl_rf, zk_isr_ref, zk_isr_null, zk_isr_rf9, zk_c1_int, zk_c1_ref, zk_c1_null, zk_c1_rf, zk_psh_some, zk_psh_none, zk_nok_int, zk_nok_bool0, zk_nok_bool1, zk_nok_b, zk_fok_0, zk_fok_1, zk_fok_2, zk_fok_n, zk_fok_rf, zb_f, zb_p, zb_i, zb_a, zb_s, zk_nth_0, zk_nth_s, zk_fld_o, zk_put_o, zk_rv_eq, zk_ri_eq, zk_is_o, List.mem_cons, List.not_mem_nil, or_false, false_or, or_true, true_or, and_true, true_and, not_false_iff, not_true_eq_false, true_implies, false_implies, imp_self, implies_true, forall_const, zk_lit, zk_uj_ap, zk_un_ap, zk_un_un, zk_uj_uj, Nat.reduceEqDiff, eq_self, zk_bq, Bool.true_or, Bool.false_or, Nat.le_refl, Nat.zero_add, Nat.add_zero, Nat.reduceAdd, Nat.reduceLeDiff, Nat.le_zero_eq, and_self, and_false, false_and, ite_true, ite_false, Nat.zero_le, List.length_cons, List.length_nil, Option.some.injEq, forall_eq', reduceCtorEq, hnr, c1, hin, hcl, hq, zk_vd ha, hO1, zk_ild_d, h_i7, h_cl, n1, b1, n_succ])
        exact ih2
      rcases hgm.lt3 hmi.2.1 (by omega) with ⟨q, c3⟩ | ⟨q, c3, ef⟩
      · refine nof (fun z => ?_) ?_
        · rw [z] at c3
          exact (nI_ge (b := 3) (by omega) (by decide) : ¬ nI 3 ≤ nI nf) c3
        · unfold m_hit
          rw [q, decide_eq_false (fun z => nI_ne2 (r := nf) (by omega) z.symm), Bool.false_and]
      · by_cases e : Ng 23 k = nI nf
        · obtain ⟨rx, ry, rw_, rh, hrf, t1, t2, t3, t4, t5, t6, t7, t8, t9, t10⟩ := hgm.rf hmi ⟨by omega, q⟩
          have hhit : ∀ c : Nat, (0 < c ↔ ∃ k2 i2, g_u rx rw_ ry rh k2 i2 ∧ g_u nx nw ny nh k2 i2) → m_hit Ng (nI nf) (nI nx) (nI ny) (nI nw) (nI nh) k = decide (0 < c) := fun c hc => by
            unfold m_hit
            rw [decide_eq_true e, Bool.true_and, t1, t2, t3, t4]
            congr 1
            rw [eq_iff_iff, u_com_iff (by omega) (by omega) (by omega) (by omega) (by omega) (by omega) (by omega) (by omega), hc]
          rw [e] at ef
          (refine hG 900 _ _ _ _ ?_; simp only [r_X11_addRoom, r_X11_addRoom_1, r_X11_addRoom_2, zk_kl_none, zk_kl_int, zk_kl_ref, zk_kl_null, zk_kl_long, zk_kl_rf, zk_isr_ref, zk_isr_null, zk_isr_rf9, zk_c1_int, zk_c1_ref, zk_c1_null, zk_c1_rf, zk_psh_some, zk_psh_none, zk_nok_int, zk_nok_bool0, zk_nok_bool1, zk_nok_b, zk_fok_0, zk_fok_1, zk_fok_2, zk_fok_n, zk_fok_rf, zb_f, zb_p, zb_i, zb_a, zb_s, zk_nth_0, zk_nth_s, zk_fld_o, zk_put_o, zk_rv_eq, zk_ri_eq, zk_is_o, List.mem_cons, List.not_mem_nil, or_false, false_or, or_true, true_or, and_true, true_and, not_false_iff, not_true_eq_false, true_implies, false_implies, imp_self, implies_true, forall_const, zk_lit, zk_uj_ap, zk_un_ap, zk_un_un, zk_uj_uj, Nat.reduceEqDiff, eq_self, zk_bq, Bool.true_or, Bool.false_or, Nat.le_refl, Nat.zero_add, Nat.add_zero, Nat.reduceAdd, Nat.reduceLeDiff, Nat.le_zero_eq, and_self, and_false, false_and, ite_true, ite_false, Nat.zero_le, List.length_cons, List.length_nil, Option.some.injEq, forall_eq', reduceCtorEq, hnr, c1, hin, hcl, hq, zk_vd ha, hO1, zk_ild_d, h_i7, h_cl, ef, spe_X11_area])
          refine ⟨ha, hsz, f, g, rx, ry, rw_, rh, nx, ny, nw, nh, (by first | exact hO1 | rfl), (by first | exact hOn | rfl), hrf, hrfg, fun c hcb hciff => ?_⟩
          have hcb2 : c ≤ 30 * 30 := Nat.le_trans hcb (Nat.mul_le_mul (by omega) (by omega))
          by_cases c0 : c = 0
          · subst c0
            rw [hhit 0 hciff, decide_eq_false (Nat.lt_irrefl 0), Bool.or_false] at ih2
            have e0 : nI 0 = 0 := rfl
            try simp only [r_X11_addRoom, r_X11_addRoom_1, r_X11_addRoom_2, zk_kl_none, zk_kl_int, zk_kl_ref, zk_kl_null, zk_kl_long, zk_kl_rf, zk_isr_ref, zk_isr_null, zk_isr_rf9, zk_c1_int, zk_c1_ref, zk_c1_null, zk_c1_rf, zk_psh_some, zk_psh_none, zk_nok_int, zk_nok_bool0, zk_nok_bool1, zk_nok_b, zk_fok_0, zk_fok_1, zk_fok_2, zk_fok_n, zk_fok_rf, zb_f, zb_p, zb_i, zb_a, zb_s, zk_nth_0, zk_nth_s, zk_fld_o, zk_put_o, zk_rv_eq, zk_ri_eq, zk_is_o, List.mem_cons, List.not_mem_nil, or_false, false_or, or_true, true_or, and_true, true_and, not_false_iff, not_true_eq_false, true_implies, false_implies, imp_self, implies_true, forall_const, zk_lit, zk_uj_ap, zk_un_ap, zk_un_un, zk_uj_uj, Nat.reduceEqDiff, eq_self, zk_bq, Bool.true_or, Bool.false_or, Nat.le_refl, Nat.zero_add, Nat.add_zero, Nat.reduceAdd, Nat.reduceLeDiff, Nat.le_zero_eq, and_self, and_false, false_and, ite_true, ite_false, Nat.zero_le, List.length_cons, List.length_nil, Option.some.injEq, forall_eq', reduceCtorEq, e0, b1, n_succ]
            exact ih2
          · rw [hhit c hciff, decide_eq_true (by omega), Bool.or_true] at ih2
            have e0 : ¬ nI c = 0 := fun z => by
              rw [show (0 : Int32) = nI 0 from rfl, n_inj (by omega) (by decide)] at z
              exact c0 z
            have zt : zk_b (!true) = 0 := rfl
            rw [zt] at ih2
            try simp only [r_X11_addRoom, r_X11_addRoom_1, r_X11_addRoom_2, zk_kl_none, zk_kl_int, zk_kl_ref, zk_kl_null, zk_kl_long, zk_kl_rf, zk_isr_ref, zk_isr_null, zk_isr_rf9, zk_c1_int, zk_c1_ref, zk_c1_null, zk_c1_rf, zk_psh_some, zk_psh_none, zk_nok_int, zk_nok_bool0, zk_nok_bool1, zk_nok_b, zk_fok_0, zk_fok_1, zk_fok_2, zk_fok_n, zk_fok_rf, zb_f, zb_p, zb_i, zb_a, zb_s, zk_nth_0, zk_nth_s, zk_fld_o, zk_put_o, zk_rv_eq, zk_ri_eq, zk_is_o, List.mem_cons, List.not_mem_nil, or_false, false_or, or_true, true_or, and_true, true_and, not_false_iff, not_true_eq_false, true_implies, false_implies, imp_self, implies_true, forall_const, zk_lit, zk_uj_ap, zk_un_ap, zk_un_un, zk_uj_uj, Nat.reduceEqDiff, eq_self, zk_bq, Bool.true_or, Bool.false_or, Nat.le_refl, Nat.zero_add, Nat.add_zero, Nat.reduceAdd, Nat.reduceLeDiff, Nat.le_zero_eq, and_self, and_false, false_and, ite_true, ite_false, Nat.zero_le, List.length_cons, List.length_nil, Option.some.injEq, forall_eq', reduceCtorEq, e0, b0, n_succ]
            exact ih2
        · refine nof (fun z => e (ef.symm.trans z)) ?_
          unfold m_hit
          rw [decide_eq_false e, Bool.false_and]
  have l0 := loop (m_nr Jg) 0 (by omega)
  (refine hG 900 _ _ _ _ ?_; simp only [r_X11_addRoom, r_X11_addRoom_1, r_X11_addRoom_2, zk_kl_none, zk_kl_int, zk_kl_ref, zk_kl_null, zk_kl_long, zk_kl_rf, zk_isr_ref, zk_isr_null, zk_isr_rf9, zk_c1_int, zk_c1_ref, zk_c1_null, zk_c1_rf, zk_psh_some, zk_psh_none, zk_nok_int, zk_nok_bool0, zk_nok_bool1, zk_nok_b, zk_fok_0, zk_fok_1, zk_fok_2, zk_fok_n, zk_fok_rf, zb_f, zb_p, zb_i, zb_a, zb_s, zk_nth_0, zk_nth_s, zk_fld_o, zk_put_o, zk_rv_eq, zk_ri_eq, zk_is_o, List.mem_cons, List.not_mem_nil, or_false, false_or, or_true, true_or, and_true, true_and, not_false_iff, not_true_eq_false, true_implies, false_implies, imp_self, implies_true, forall_const, zk_lit, zk_uj_ap, zk_un_ap, zk_un_un, zk_uj_uj, Nat.reduceEqDiff, eq_self, zk_bq, Bool.true_or, Bool.false_or, Nat.le_refl, Nat.zero_add, Nat.add_zero, Nat.reduceAdd, Nat.reduceLeDiff, Nat.le_zero_eq, and_self, and_false, false_and, ite_true, ite_false, Nat.zero_le, List.length_cons, List.length_nil, Option.some.injEq, forall_eq', reduceCtorEq, hn_n, hn_l, hn_i, h_i7, h_cl, zk_vd hsz, hsz, zk_wd _ hsz, zk_wod _ hsz, zk_up_same, zk_up_up, zk_ist_d, hnr, c20, eg])
  exact l0
def hh_X11_addRoom : List (Nat × Nat × Nat × Nat) := [(110, 165, 166, 70)]
theorem HO_X11_addRoom : zk_HO RX11 hh_X11_addRoom M_X11_addRoom := by
  intro pc X hp h
  have h2 : (match Nat.beq 123 pc with | true => (if X = "java/lang/IllegalStateException" then some 166 else none) | false => none : Option Nat) = some hp := h
  clear h
  split at h2
  · rename_i e
    have e := Nat.eq_of_beq_eq_true e
    subst e
    by_cases e0 : X = "java/lang/IllegalStateException"
    · subst e0
      rw [if_pos rfl] at h2
      cases h2
      exact ⟨[], ⟨110, 165, 166, 70⟩, [], rfl, fun _ h => absurd h List.not_mem_nil, by decide, by decide, rfl, "java/lang/IllegalStateException", zk_wi 642 (by decide +kernel) rfl, zk_tb 653 (by decide +kernel)⟩
    rw [if_neg e0] at h2
    cases h2
  · cases h2
theorem ct_X11_addRoom {l : Launch} (hl : l.stackTraces = false) (E : zk_E) : zk_CH l E (zk_VT E) yX11_addRoom cX11_addRoom 10 (some (.boolean)) hh_X11_addRoom rm_X11_addRoom (sp_X11_addRoom E) := by
  refine zk_methH (M := M_X11_addRoom) (C := C_X11_addRoom E) (by decide +kernel) rfl HO_X11_addRoom (zk_VT_ok E) MO_X11_addRoom TO_X11_addRoom (fun _ => rfl) ?_ (vc_X11_addRoom E)
  exact fun p e s m args below meth c X pc n mc ms sp2 h => by
    have h2 := zk_lka_mem h
    simp only [List.mem_cons, List.not_mem_nil, or_false, Prod.mk.injEq] at h2
    rcases h2 with ⟨rfl, rfl, rfl, rfl, rfl⟩ | ⟨rfl, rfl, rfl, rfl, rfl⟩
    · exact zk_coS (idx := 62) X (ct_X11_area hl E) (List.forall_mem_cons.mpr ⟨zk_wi 643 (by decide +kernel) rfl, List.forall_mem_cons.mpr ⟨zk_wi 644 (by decide +kernel) rfl, List.forall_mem_cons.mpr ⟨zk_wi 1 (by decide +kernel) rfl, List.forall_mem_cons.mpr ⟨zk_wi 645 (by decide +kernel) rfl, fun _ h => absurd h List.not_mem_nil⟩⟩⟩⟩) (by decide +kernel) ⟨by decide, by decide, by decide +kernel⟩ ⟨by decide, by decide⟩
    · exact zk_coV (idx := 66) X (ct_X10_addRoom hl E) (List.forall_mem_cons.mpr ⟨zk_wi 646 (by decide +kernel) rfl, List.forall_mem_cons.mpr ⟨zk_wi 647 (by decide +kernel) rfl, List.forall_mem_cons.mpr ⟨zk_wi 648 (by decide +kernel) rfl, List.forall_mem_cons.mpr ⟨zk_wi 2 (by decide +kernel) rfl, List.forall_mem_cons.mpr ⟨zk_wi 649 (by decide +kernel) rfl, fun _ h => absurd h List.not_mem_nil⟩⟩⟩⟩⟩) (fun ci h => by
      have h := Nat.eq_of_beq_eq_true h
      subst h
      exact ⟨_, _, rfl⟩) (by decide +kernel) ⟨by decide, by decide, by decide +kernel⟩ ⟨by decide, by decide⟩

