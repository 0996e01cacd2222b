/-! the claim: three houses, the law's own end, its start, and what is owed (begun from the skeleton) -/
/-! THE CLAIM OUT OF ONE WALK OF THE LAW'S BODY. Your part is whole_start (and what it stands on); all else here is the same for every law, but numbers. -/
def R_law : String := "ClerestoryPlanLaw"
def lw_P (b : Addr) (xs : List Int32) (args : Array Value) (s : State) : Prop := args = #[.ref b] ∧ s.IntsAt b xs ∧ xs.length ≤ 260 ∧ (Jvm.Cond.and given_1 narrow_1).before args s = true
def lw_Q (_ : Array Value) (s : State) (o : Outcome) (t : State) : Prop := o = .returned (some (.int 1)) ∧ Framed s o t [] 600074 7301550
def lw_Z (below : List Frame) (a : Array Value) (s : State) : State → Prop := fun t => ∃ o, t.status = .running ∧ Ended t below o ∧ lw_Q a s o t
/-- the law's own end, with 1 on the stack, nothing written that was there before, its room as the claim has it -/
theorem lw_ret {p : Program} {l : Launch} {e : Env} {s : State} {m : MethodId} {below : List Frame} {meth : Method} {c : Code} {b : Nat} (hx : p.tables.exec = Jvm.exec) (hb : c.code = code) (hr : meth.sig.returnType = ret) (hlocks : meth.locks = false) {pc : Nat} {H : Heap} {ls : Array Slot} (hdg : decode code pc = .ok (.ireturn, 1)) : W p l e room_1 s m #[Value.ref b] below meth c H [] 600074 7301550 (lw_Z below #[Value.ref b] s) (F0 m pc ls [.int 1]) := by
  intro T hT X
  obtain ⟨fs, hret, hrun, hended, hW, hframe⟩ := X.leave (v := some (.int 1)) (hlocks := hlocks) (fun h => by rw [hr] at h; cases h)
  have hmeth' : T.vm.method? m = some meth := X.method'
  refine ⟨T.setFrames fs, ?_, .returned (some (.int 1)), hrun, hended, rfl, ⟨_, rfl⟩, hW, hframe⟩
  jvm_step X.here [X.here.top, hx, hb, hdg, hmeth', hr, ret, narrow_b1]
  (try refine ⟨rfl, ?_⟩); (try refine ⟨rfl, ?_⟩)
  first | (intro acts; rw [hret _ acts rfl rfl rfl]) | rw [hret _ _ rfl rfl rfl]
  exact Steps.refl _
/-- what holds at the law's entry: the machine, the code, the tables' words (any of lw_tbl by 'hts w (by decide +kernel)'), the script of L ints xs at the cell b, what the Statement gives of the start (any of its parts by flat_of_before) -/
def lw_At (p : Program) (s : State) (m : MethodId) (meth : Method) (c : Code) (b L : Nat) (xs : Nat → Int32) : Prop :=
  p.tables.exec = Jvm.exec ∧ c.code = code ∧ meth.sig.returnType = ret ∧ c.maxLocals = 15 ∧ s.vm.findClass R_law = some m.cls ∧ (∀ w ∈ lw_tbl, w.before #[Value.ref b] s = true) ∧ va_X b L xs s s.heap ∧ b < s.heap.size ∧ meth.locks = false ∧ (Jvm.Cond.and given_1 narrow_1).before #[Value.ref b] s = true

theorem zk_VK.up {S : Type} {E : zk_E} {V : zk_V S} {n : Nat} (hn : E.1 ≤ n) (h : zk_VK (n, E.2) V) : zk_VK E V := ⟨fun σ a e g => ⟨Nat.le_trans hn (h.1 σ a e g).1, (h.1 σ a e g).2⟩, fun σ a k v ci fs g0 g => ⟨Nat.le_trans hn (h.2 σ a k v ci fs g0 g).1, (h.2 σ a k v ci fs g0 g).2⟩⟩
section ZE
variable {S : Type} (E : zk_E) (n : Nat) (V : zk_V S) (M : zk_M) (C : zk_Cl S) (P : zk_P S) (PX : zk_X S)
theorem zk_ins_E (pc : Nat) (i : Instr) (hi : ¬ i = .aastore) (L : zk_L) (st : List Value) (w : zk_W S) (K : Nat → zk_L → List Value → zk_W S → Prop) : zk_ins (n, E.2) V M P pc i L st w K = zk_ins E V M P pc i L st w K := by
  cases i <;> first | rfl | exact absurd rfl hi
theorem zk_step_E (hM : ∀ pc, ¬ M.1 pc = some .aastore) (pc : Nat) (L : zk_L) (st : List Value) (w : zk_W S) (K : Nat → zk_L → List Value → zk_W S → Prop) : zk_step (n, E.2) V M C P PX pc L st w K = zk_step E V M C P PX pc L st w K := by
  unfold zk_step
  cases M.2.2.2.2.1 pc with
  | some X => rfl
  | none =>
    dsimp only
    cases M.2.2.2.2.2.2.1 pc with
    | true => rfl
    | false =>
      dsimp only
      cases M.2.2.2.2.2.2.2.1 pc with
      | true => rfl
      | false =>
        dsimp only
        cases M.2.2.2.2.2.2.2.2 pc with
        | some t => rfl
        | none =>
          dsimp only
          cases C pc with
          | some q => rfl
          | none =>
            dsimp only
            cases h : M.1 pc with
            | none => rfl
            | some i =>
              dsimp only
              exact zk_ins_E E n V M P pc i (fun e => hM pc (by rw [h, e])) L st w K
theorem zk_run_E (hM : ∀ pc, ¬ M.1 pc = some .aastore) (K : Nat → zk_L → List Value → zk_W S → Prop) : ∀ (m pc : Nat) (L : zk_L) (st : List Value) (w : zk_W S), zk_run (n, E.2) V M C P PX K m pc L st w = zk_run E V M C P PX K m pc L st w
  | 0, _, _, _, _ => rfl
  | m + 1, pc, L, st, w => by
    have e : zk_run (n, E.2) V M C P PX K m = zk_run E V M C P PX K m := by
      funext pc L st w
      exact zk_run_E hM K m pc L st w
    rw [zk_run, zk_run, e]
    cases M.2.1 pc with
    | true => rfl
    | false => exact zk_step_E E n V M C P PX hM pc L st w _
theorem zk_go_E (hM : ∀ pc, ¬ M.1 pc = some .aastore) (K : Nat → zk_L → List Value → zk_W S → Prop) (m pc : Nat) (L : zk_L) (st : List Value) (w : zk_W S) : zk_go (n, E.2) V M C P PX K m pc L st w = zk_go E V M C P PX K m pc L st w := by
  have e : zk_run (n, E.2) V M C P PX K m = zk_run E V M C P PX K m := by
    funext pc L st w
    exact zk_run_E E n V M C P PX hM K m pc L st w
  unfold zk_go
  rw [e]
  exact zk_step_E E n V M C P PX hM pc L st w _
end ZE
theorem law_noaa : cl_L_law.all (fun q => q.2.all (fun r => decide (¬ r.2 = .aastore))) = true := by decide +kernel
theorem law_aa : ∀ pc, ¬ M_L_law.1 pc = some .aastore := by
  intro pc h
  obtain ⟨q, h1, h2⟩ := zk_lkc_mem h
  have h3 := List.all_eq_true.mp (List.all_eq_true.mp law_noaa q h1) _ h2
  exact absurd rfl (of_decide_eq_true h3)
def bc : Nat → Nat
  | 0 => 0
  | m + 1 => bc m + 80000
def bs : Nat → Nat
  | 0 => 0
  | m + 1 => bs m + 500000
theorem zl_ret {p : Program} {l : Launch} {e : Env} {s : State} {m : MethodId} {below : List Frame} {meth : Method} {c : Code} {b : Nat} {E : zk_E} {S : Type} {V : zk_V S} (hx : p.tables.exec = Jvm.exec) (hb : c.code = code) (hr : meth.sig.returnType = ret) (hlocks : meth.locks = false) (hE : E.1 = s.heap.size) : zk_Ret p l e room_1 s m #[Value.ref b] below meth c (lw_Z below #[Value.ref b] s) E V M_L_law (zl_P S) cL_law := by
  intro v w pc st H locs ls hP hc hs hz hrr hS hd
  rcases hd with ⟨x, rfl, rfl, hd, hn⟩ | ⟨x, rfl, rfl, hd, h9⟩ | ⟨x, rfl, rfl, hd, h9⟩ | ⟨x, rfl, rfl, hd, h8, rt, h9, h10⟩ | ⟨rfl, rfl, hd, h9⟩
  · have hP : (some (Value.int x)) = some (Value.int 1) := hP
    cases hP
    refine W.widen (k := 600074) (n := 7301550) hc hs ?_
    refine va_forget (fun q hq => by have := hS.2.2 q hq; have h9 : E.1 ≤ q.base := this; omega) ?_
    exact lw_ret hx hb hr hlocks hd
  · have hP : (some (Value.long x)) = some (Value.int 1) := hP
    cases hP
  · have hP : (some (Value.double x)) = some (Value.int 1) := hP
    cases hP
  · have hP : (some x) = some (Value.int 1) := hP
    cases hP
    rcases zk_isr_cases h8 with h | ⟨a, h⟩ <;> cases h
  · have hP : (none : Option Value) = some (Value.int 1) := hP
    cases hP
theorem zl_Ph (σ : zk_Hp) (sz : Nat) : zl_P zk_Hp (some (.int 1)) σ sz = True := eq_true rfl
def h_scr (E : zk_E) (b L : Nat) (xs : Nat → Int32) : zk_Hp := fun q => if q = b then some (.inl (zk_ar E 0, L, .inl xs)) else none
theorem oc_1 {cs B : Nat} (h : cs + (B + 80000) ≤ 600074) : cs + 28 + 70000 ≤ 600074 ∧ cs ≤ 600073 ∧ cs ≤ 600046 := by omega
theorem oc_2 {cs B c2 : Nat} (h : cs + (B + 80000) ≤ 600074) (h2 : c2 ≤ cs + 28 + 70000) : c2 + B ≤ 600074 := by omega
theorem os_1 {ss B : Nat} (h : ss + (B + 500000) ≤ 7301550) : ss + 1179 + 400000 ≤ 7301550 ∧ ss ≤ 7301538 ∧ ss ≤ 7300371 := by omega
theorem os_2 {ss B s2 : Nat} (h : ss + (B + 500000) ≤ 7301550) (h2 : s2 ≤ ss + 1179 + 400000) : s2 + B ≤ 7301550 := by omega
section OUT
variable {E : zk_E} {b Ls : Nat} {xs : Nat → Int32} {GH : Nat → zk_L → List Value → zk_W zk_Hp → Prop} {GT : Nat → Nat → zk_L → List Value → zk_W zk_S → Prop}
set_option maxHeartbeats 4000000 in
set_option maxRecDepth 100000 in
theorem law_outer (hbE : b < E.1) (hL : Ls ≤ 260)
    (hGT : ∀ n, E.1 ≤ n → ∀ k pc L st w, zk_go (n, E.2) (zk_VT (n, E.2)) M_L_law (C_law (n, E.2)) (zl_P zk_S) (zl_X zk_S) (GT n) k pc L st w → GT n pc L st w)
    (hGH : ∀ k pc L st w, zk_go E (zk_VH E) M_L_law (C_law0 E) (zl_P zk_Hp) (zl_X zk_Hp) GH k pc L st w → GH pc L st w)
    (sw1 : ∀ n, E.1 ≤ n → ∀ d L cs ss, GT n 23 L [] ((s_J d, s_N, s_Q, fun _ => none, (b, Ls, xs)), n + 28, cs, ss) → GH 23 L [] (s_h E (h_scr E b Ls xs) n b d, n + 28, cs, ss))
    (sw2 : ∀ n, E.1 ≤ n → ∀ L σ sz cs ss, GH 2 L [] (h_scr E b Ls xs, sz, cs, ss) → GT n 2 L [] (σ, sz, cs, ss)) :
    ∀ (m t sz cs ss : Nat) (l2 l3 l4 l5 l6 l7 l8 l9 l10 l11 l12 l13 l14 : Option Value), t + m = 3 → E.1 ≤ sz → cs + bc m ≤ 600074 → ss + bs m ≤ 7301550 → GH 2 [some (.ref b), some (.int (nI t)), l2, l3, l4, l5, l6, l7, l8, l9, l10, l11, l12, l13, l14] [] (h_scr E b Ls xs, sz, cs, ss)
  | 0, t, sz, cs, ss, l2, l3, l4, l5, l6, l7, l8, l9, l10, l11, l12, l13, l14, ht, hz, hc, hs => by
    have e : t = 3 := by omega
    subst e
    have z1 : (3 : Int32) ≤ nI 3 := by decide
    refine hGH 900 _ _ _ _ ?_
    simp only [r_law_h, zk_kl_none, zk_kl_int, zk_kl_ref, zk_kl_null, zk_kl_long, zk_kl_rf, zk_isr_ref, zk_isr_null, zk_isr_rf9, zk_c1_int, zk_c1_ref, zk_c1_null, zk_c1_rf, zk_psh_some, zk_psh_none, zk_nok_int, zk_nok_bool0, zk_nok_bool1, zk_nok_b, zk_fok_0, zk_fok_1, zk_fok_2, zk_fok_n, zk_fok_rf, zb_f, zb_p, zb_i, zb_a, zb_s, zk_nth_0, zk_nth_s, zk_fld_o, zk_put_o, zk_rv_eq, zk_ri_eq, zk_is_o, List.mem_cons, List.not_mem_nil, or_false, false_or, or_true, true_or, and_true, true_and, not_false_iff, not_true_eq_false, true_implies, false_implies, imp_self, implies_true, forall_const, zk_lit, zk_uj_ap, zk_un_ap, zk_un_un, zk_uj_uj, Nat.reduceEqDiff, eq_self, zk_bq, Bool.true_or, Bool.false_or, Nat.le_refl, Nat.zero_add, Nat.add_zero, Nat.reduceAdd, Nat.reduceLeDiff, Nat.le_zero_eq, and_self, and_false, false_and, ite_true, ite_false, Nat.zero_le, List.length_cons, List.length_nil, Option.some.injEq, forall_eq', reduceCtorEq, vh_1, vh_2, vh_3, vh_4, vh_5, zl_Ph, z1]
    exact ⟨hc, hs⟩
  | m + 1, t, sz, cs, ss, l2, l3, l4, l5, l6, l7, l8, l9, l10, l11, l12, l13, l14, ht, hz, hc, hs => by
    have ht1 : t + 1 + m = 3 := by omega
    have htl : t < 3 := by omega
    have hd9 : 31 * t + 7 ≤ 1000 := by omega
    have hLs : Ls < 2 ^ 31 := Nat.lt_of_le_of_lt hL (by decide)
    have z1 : ¬ (3 : Int32) ≤ nI t := by rw [show (3 : Int32) = nI 3 from rfl, nI_lei (by decide) (by omega)]; omega
    have eb : bc (m + 1) = bc m + 80000 := rfl
    have es : bs (m + 1) = bs m + 500000 := rfl
    rw [eb] at hc
    rw [es] at hs
    have e12 : (zk_new 10).length = 12 := rfl
    have z2 : (31 : Int32) * nI t + 7 = nI (31 * t + 7) := by rw [show (31 : Int32) = nI 31 from rfl, show (7 : Int32) = nI 7 from rfl, n_mul, n_add]
    have hz9 : (E.1 ≤ sz) = True := eq_true hz
    have step : GH 23 [some (.ref b), some (.int (nI t)), some (.ref sz), l3, l4, l5, l6, l7, l8, l9, l10, l11, l12, l13, l14] [] (s_h E (h_scr E b Ls xs) sz b (nI (31 * t + 7)), sz + 28, cs + 28, ss + 1179) := by
      refine sw1 sz hz _ _ _ _ ?_
      have hI := s_hi (sz, E.2) (fun _ => none) (b, Ls, xs) (31 * t + 7) ⟨Nat.lt_of_lt_of_le hbE hz, hLs⟩
      have hc9 := (oc_1 hc).1
      have hs9 := (os_1 hs).1
      refine law_house (E := (sz, E.2)) (cs := cs + 28) (ss := ss + 1179) (hGT sz hz) hI rfl rfl rfl hd9 hc9 hs9 b t l3 l4 l5 l6 l7 l8 l9 l10 l11 l12 l13 l14 (fun J3 N3 Q3 O3 U3 sz2 c2 s2 l2 l3 l4 l5 l6 l7 l8 l9 l10 l11 l12 l13 l14 g1 g2 g3 => ?_)
      refine sw2 sz hz _ _ _ _ _ ?_
      exact law_outer hbE hL hGT hGH sw1 sw2 m (t + 1) sz2 c2 s2 l2 l3 l4 l5 l6 l7 l8 l9 l10 l11 l12 l13 l14 ht1 (Nat.le_trans hz g1) (oc_2 hc g2) (os_2 hs g3)
    unfold s_h at step
    refine hGH 900 _ _ _ _ ?_
    simp only [r_law_h, zk_kl_none, zk_kl_int, zk_kl_ref, zk_kl_null, zk_kl_long, zk_kl_rf, zk_isr_ref, zk_isr_null, zk_isr_rf9, zk_c1_int, zk_c1_ref, zk_c1_null, zk_c1_rf, zk_psh_some, zk_psh_none, zk_nok_int, zk_nok_bool0, zk_nok_bool1, zk_nok_b, zk_fok_0, zk_fok_1, zk_fok_2, zk_fok_n, zk_fok_rf, zb_f, zb_p, zb_i, zb_a, zb_s, zk_nth_0, zk_nth_s, zk_fld_o, zk_put_o, zk_rv_eq, zk_ri_eq, zk_is_o, List.mem_cons, List.not_mem_nil, or_false, false_or, or_true, true_or, and_true, true_and, not_false_iff, not_true_eq_false, true_implies, false_implies, imp_self, implies_true, forall_const, zk_lit, zk_uj_ap, zk_un_ap, zk_un_un, zk_uj_uj, Nat.reduceEqDiff, eq_self, zk_bq, Bool.true_or, Bool.false_or, Nat.le_refl, Nat.zero_add, Nat.add_zero, Nat.reduceAdd, Nat.reduceLeDiff, Nat.le_zero_eq, and_self, and_false, false_and, ite_true, ite_false, Nat.zero_le, List.length_cons, List.length_nil, Option.some.injEq, forall_eq', reduceCtorEq, vh_1, vh_2, vh_3, vh_4, vh_5, zl_Ph, z1, z2, hz9, e12, spe_X11_init]
    refine ⟨(oc_1 hc).2.1, (os_1 hs).2.1, ?_⟩
    refine ⟨(oc_1 hc).2.2, (os_1 hs).2.2, Nat.lt_succ_self _, _, rfl, ?_⟩
    exact step
end OUT
theorem whole_start {p : Program} {e : Env} {s : State} {m : MethodId} {below : List Frame} {meth : Method} {c : Code} (l : Launch) (hflags : l.flags = flags0) {b L : Nat} {xs : Nat → Int32} (hL : L ≤ 260) (C0 : lw_At p s m meth c b L xs) : W p l e room_1 s m #[Value.ref b] below meth c s.heap [] 0 0 (lw_Z below #[Value.ref b] s) (entryFrame m ([Value.ref b] : List Value).toArray 15) := by
  obtain ⟨hx, hb, hr, hml, hown, hts, hX, hbl, hlocks, hgv⟩ := id C0
  have hl : l.stackTraces = false := by
    unfold Launch.stackTraces
    rw [hflags]
    decide +kernel
  obtain ⟨D, cT, hK0, h99, cell, c1, c2, c3, c4, c5, c6⟩ := zk_K_of hX hts hgv
  obtain ⟨E, hEe⟩ : ∃ E : zk_E, E = (s.heap.size, D, cT) := ⟨_, rfl⟩
  rw [← hEe] at hK0
  have hE1 : E.1 = s.heap.size := by rw [hEe]
  have hE99 : E.2.2 99 = s.heap.size := by rw [hEe]; exact h99
  have hE97 : cell.cls = E.2.2 97 := by rw [hEe]; exact c2
  have hb99 : E.2.2 99 ≤ E.1 := by rw [hE99, hE1]; exact Nat.le_refl _
  have X0 : zk_Ctx RL cL_law 15 E p s m #[Value.ref b] c := ⟨hx, hb, hml, hown, fun w hw => hts w (zk_WS_tbl hw), hK0, Nat.le_of_eq hE1⟩
  have hbA : ¬ zk_A E b := fun w => by have w : E.1 ≤ b := w; omega
  have hscr : ∀ (H : Heap) (locs : List Loc), va_S (zk_A E) s.heap H locs → zk_R E (h_scr E b L xs) H := by
    intro H locs hS a e2 ha
    unfold h_scr at ha
    split at ha
    · rename_i q
      rw [q]
      cases ha
      refine Or.inr ⟨?_, ?_⟩
      · unfold zk_bs
        rw [hE99, hE1, Nat.min_self]
        exact hbl
      · show ∃ cell2 : Cell, H[b]? = some cell2 ∧ cell2.cls = E.2.2 97 ∧ (∀ k, cell2.vm ≠ .statics k) ∧ cell2.vm ≠ .unknown ∧ cell2.slots.size = L ∧ ∀ j, j < L → cell2.slots[j]? = some (.int (xs j))
        exact ⟨cell, (hS.2.1 _ hbl hbA).trans c1, hE97, c3, c4, c5, c6⟩
    · cases ha
  have hGT : ∀ n, E.1 ≤ n → ∀ k pc Lc st w, zk_go (n, E.2) (zk_VT (n, E.2)) M_L_law (C_law (n, E.2)) (zl_P zk_S) (zl_X zk_S) (zk_G p l e room_1 s m #[Value.ref b] below meth c (lw_Z below #[Value.ref b] s) E (zk_VT (n, E.2)) 15) k pc Lc st w → zk_G p l e room_1 s m #[Value.ref b] below meth c (lw_Z below #[Value.ref b] s) E (zk_VT (n, E.2)) 15 pc Lc st w := fun n hn k pc Lc st w h => by
    rw [zk_go_E E n _ _ _ _ _ law_aa] at h
    exact zk_go_ok X0 ((zk_VT_ok (n, E.2)).up hn) ⟨Nat.le_refl _, Nat.le_refl _⟩ MO_L_law TO_L_law (zl_ret hx hb hr hlocks hE1) zl_thr zl_xc (co_law hl X0 hn hb99) k pc Lc st w h
  have hGH : ∀ k pc Lc st w, zk_go E (zk_VH E) M_L_law (C_law0 E) (zl_P zk_Hp) (zl_X zk_Hp) (zk_G p l e room_1 s m #[Value.ref b] below meth c (lw_Z below #[Value.ref b] s) E (zk_VH E) 15) k pc Lc st w → zk_G p l e room_1 s m #[Value.ref b] below meth c (lw_Z below #[Value.ref b] s) E (zk_VH E) 15 pc Lc st w := fun k pc Lc st w h => zk_go_ok X0 (zk_VH_ok E) ⟨Nat.le_refl _, Nat.le_refl _⟩ MO_L_law TO_L_law (zl_ret hx hb hr hlocks hE1) zl_thr zl_xc (co_law0 hl X0) k pc Lc st w h
  have h2 : zk_G p l e room_1 s m #[Value.ref b] below meth c (lw_Z below #[Value.ref b] s) E (zk_VH E) 15 2 [some (.ref b), some (.int (nI 0)), none, none, none, none, none, none, none, none, none, none, none, none, none] [] (h_scr E b L xs, E.1, 0, 0) := by
    refine law_outer (by rw [hE1]; exact hbl) hL hGT hGH ?_ ?_ 3 0 E.1 0 0 _ _ _ _ _ _ _ _ _ _ _ _ _ rfl (Nat.le_refl _) (by decide) (by decide)
    · intro n hn d Lc cs ss h H locs ls hz hr2 hS hlv
      exact h H locs ls hz (fun q e2 hq => hr2 q e2 (s_in E (h_scr E b L xs) n d (b, L, xs) (by unfold h_scr; rw [if_pos rfl]) q e2 hq)) hS hlv
    · intro n hn Lc σ sz cs ss h H locs ls hz hr2 hS hlv
      exact h H locs ls hz (hscr H locs hS) hS hlv
  have h0 : zk_G p l e room_1 s m #[Value.ref b] below meth c (lw_Z below #[Value.ref b] s) E (zk_VH E) 15 0 [some (.ref b), none, none, none, none, none, none, none, none, none, none, none, none, none, none] [] (h_scr E b L xs, E.1, 0, 0) := by
    refine hGH 900 _ _ _ _ ?_
    simp only [r_law_h, zk_kl_none, zk_kl_int, zk_kl_ref, zk_kl_null, zk_kl_long, zk_kl_rf, zk_isr_ref, zk_isr_null, zk_isr_rf9, zk_c1_int, zk_c1_ref, zk_c1_null, zk_c1_rf, zk_psh_some, zk_psh_none, zk_nok_int, zk_nok_bool0, zk_nok_bool1, zk_nok_b, zk_fok_0, zk_fok_1, zk_fok_2, zk_fok_n, zk_fok_rf, zb_f, zb_p, zb_i, zb_a, zb_s, zk_nth_0, zk_nth_s, zk_fld_o, zk_put_o, zk_rv_eq, zk_ri_eq, zk_is_o, List.mem_cons, List.not_mem_nil, or_false, false_or, or_true, true_or, and_true, true_and, not_false_iff, not_true_eq_false, true_implies, false_implies, imp_self, implies_true, forall_const, zk_lit, zk_uj_ap, zk_un_ap, zk_un_un, zk_uj_uj, Nat.reduceEqDiff, eq_self, zk_bq, Bool.true_or, Bool.false_or, Nat.le_refl, Nat.zero_add, Nat.add_zero, Nat.reduceAdd, Nat.reduceLeDiff, Nat.le_zero_eq, and_self, and_false, false_and, ite_true, ite_false, Nat.zero_le, List.length_cons, List.length_nil, Option.some.injEq, forall_eq', reduceCtorEq, vh_1, vh_2, vh_3, vh_4, vh_5, zl_Ph]
    exact h2
  rw [lg_entry_eq]
  exact h0 s.heap [] _ hE1.symm (hscr s.heap [] va_S.rf) va_S.rf (zk_lv_ent [.ref b] (Nat.le_of_ble_eq_true rfl))
set_option maxHeartbeats 4000000 in
theorem lw_walk (l : Launch) (hflags : l.flags = flags0) (b : Addr) (xs : List Int32) : MetFree l x (headSpec (Jvm.Cond.code x code maxLocals ret :: tables_1) room_1) (lw_P b xs) (fun _ _ _ _ _ => True) lw_Q := by
  refine MetFree.of_bodyS (code := code) (maxLocals := maxLocals) (ret := ret) (by decide) ?_ ?_
  · intro args s m h hn
    obtain ⟨meth, c, h1, h2, h3, h4, h5, h6, -, -⟩ := Cond.code_spec hn (atoms_spec (ws := Jvm.Cond.code x code maxLocals ret :: tables_1) h _ List.mem_cons_self)
    exact ⟨meth, c, h1, h2, h3, h4, h5, h6⟩
  · intro p e s m args below meth c s₁ B hml0 hP _
    obtain ⟨rfl, hx, hbd, hgv⟩ := hP
    obtain ⟨scr, harrAt, hlist, hof, hsmall⟩ := hx
    obtain ⟨hcb, hkn, -, -⟩ := State.arrayAt?_spec harrAt
    have hown : s.vm.findClass R_law = some m.cls := findClass_of_methodNamed B.named
    have hts0 : ∀ c ∈ (Jvm.Cond.code x code maxLocals ret :: tables_1), c.before #[Value.ref b] s = true := atoms_spec (ws := Jvm.Cond.code x code maxLocals ret :: tables_1) B.pre
    have hts : ∀ w ∈ lw_tbl, w.before #[Value.ref b] s = true := k2_hts_sels lw_privs (fun w hw => hts0 w (List.mem_cons_of_mem _ hw)) lw_privs_ok
    have hml : c.maxLocals = 15 := B.maxLocals_eq (hts0 _ List.mem_cons_self)
    have X₀ : Stand p l e room_1 s m #[Value.ref b] below meth c s₁ [] 0 0 := Stand.of_body B
    have hh0 : s₁.heap = s.heap := by rw [B.state]; rfl
    have hsz : scr.slots.size = xs.length := by rw [← Array.length_toList, hlist, List.length_map]
    have hval : ∀ j : Nat, j < xs.length → scr.slots[j]? = some (.int (xs.getD j 0)) := fun j hj => by
      rw [← Array.getElem?_toList, hlist]
      simp [hj]
    have hbl : b < s.heap.size := (Array.getElem?_eq_some_iff.mp hcb).1
    have hX : va_X b xs.length (fun j => xs.getD j 0) s s.heap := ⟨scr, hcb, hof, hkn, hsz, hval⟩
    have K : W p l e room_1 s m #[Value.ref b] below meth c s₁.heap [] 0 0 (lw_Z below #[Value.ref b] s) (entryFrame m ([Value.ref b] : List Value).toArray 15) := by
      rw [hh0]
      exact whole_start l hflags hbd ⟨B.exec, B.bytes, B.returns, hml, hown, hts, hX, hbl, B.notSynchronized, hgv⟩
    obtain ⟨t, a1, o, b1, b2, b3⟩ := K s₁ rfl X₀
    exact ⟨t, o, a1, b1, b2, b3⟩
theorem lw_pre_spec {args : Array Value} {s : State} (h : (Jvm.Cond.and given_1 narrow_1).before args s = true) (hr : rest_1_c.before args s = true) : ∃ (b : Addr) (xs : List Int32), lw_P b xs args s := by
  have hs := flat_of_before _ h
  have hq := flat_of_before _ hr
  have hc : (Cond.count 1).before args s = true := hs _ (by decide +kernel)
  have harr : (Cond.arrayOf (.arg 0) .int).before args s = true := hs _ (by decide +kernel)
  have hle : (Cond.le (.length (.arg 0)) (.int 260)).before args s = true := hs _ (by decide +kernel)
  have hlen : (Cond.isInt (.length (.arg 0))).before args s = true := hq _ (by decide +kernel)
  have hall : (Cond.all (.arg 0) (.isInt (.elem (.arg 0) (.index 0)))).before args s = true := hq _ (by decide +kernel)
  obtain ⟨b, xs, hb, hx⟩ := State.ints_of_pre rfl harr hlen hall
  have hsm : xs.length < 2 ^ 31 := hx.choose_spec.2.2.2
  have hev : (Term.length (.arg 0)).eval args s none [] s = some (.int xs.length.toInt32) := hx.length_eval hb
  have hv := Cond.le_ints hev (show (Term.int 260).eval args s none [] s = some (.int 260) from rfl)
  have hd : xs.length.toInt32 ≤ 260 := by
    simpa [Cond.before, Cond.holds, hv] using hle
  have hN : xs.length ≤ 260 := (Int32.ofNat_le_ofNat hsm (by decide)).mp (show Int32.ofNat xs.length ≤ Int32.ofNat 260 from hd)
  exact ⟨b, xs, Cond.one_arg hc (show args[0]? = some (.ref b) from hb), hx, hN, h⟩
theorem lw_comes (l : Launch) (hflags : l.flags = flags0) : Comes l x (Jvm.Cond.code x code maxLocals ret :: tables_1) room_1 (fun tb e args s => Calls_1 tb e args s ∧ rest_1 tb e args s ∧ Pre_1 tb e args s)
    (fun _ _ args s o t => lw_Q args s o t) := by
  intro p e ha hc hk s m args below hf hfit hheap happ hpre
  obtain ⟨b, xs, hP⟩ := lw_pre_spec hpre.2.2 hpre.2.1
  obtain ⟨k, o, h1, h2, h3, hQ⟩ := lw_walk l hflags b xs p e ha hc hk s m args below hf ((Spec.applies_iff_loose hf).mp happ).1 hP trivial
  exact ⟨k, o, h1, h2, h3, hQ⟩
theorem lw_frame {s t : State} {o : Outcome} {args : Array Value} (h : Framed s o t [] 600074 7301550) :
    Framed s o t (fieldLocs frame_1_writes args s ++ arrayLocs frame_1_arrays args s ++ staticLocs frame_1_statics s) 600074 7301550 := h
theorem lw_limb (L : Cond) (hL : ∀ (args : Array Value) (s t : State), L.after args s (.returned (some (.int 1))) t = true) :
    ArmFor flags0 classFile x code maxLocals ret World_1 tables_1 room_1 Calls_1 rest_1 Pre_1
      (fun tb e a s o t => postC L tb e a s o t ∧ Framed s o t (fieldLocs frame_1_writes a s ++ arrayLocs frame_1_arrays a s ++ staticLocs frame_1_statics s) 600074 7301550) := by
  intro l hflags _ _ p e ha hc hk s m args below hf hfit hheap happ hpre
  obtain ⟨k, o, h1, h2, h3, rfl, hF⟩ := lw_comes l hflags p e ha hc hk s m args below hf hfit hheap happ hpre
  exact ⟨k, _, h1, h2, h3, hL args s _, lw_frame hF⟩
theorem i_vc : Claimed_1_1 ∧ Claimed_1_2 := ⟨lw_limb limb_1_1 (fun args s t => by simp [limb_1_1, Cond.after, Cond.holds, Cond.value]), lw_limb limb_1_2 (fun args s t => Cond.after_iff.mpr (by
  first | (rw [show limb_1_2 = Cond.eq .result (.int 1) from rfl, Cond.eq_ints (x := 1) (y := 1) rfl rfl]; simp; done) | (simp [limb_1_2, Cond.value, Term.eval]; done)))⟩

