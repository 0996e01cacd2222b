/-! the claim: the law's own end, its start, and what is owed (begun from the skeleton) -/
/-! THE CLAIM OUT OF ONE WALK OF THE LAW'S BODY. Your part is whole_start (and what it stands on); all else here is the same for every law, but numbers. -/
def R_law : String := "ClerestoryPlanLaw"
def lw_P (b : Addr) (xs : List Int32) (args : Array Value) (s : State) : Prop := args = #[.ref b] ∧ s.IntsAt b xs ∧ xs.length ≤ 3584 ∧ (Jvm.Cond.and given_1 narrow_1).before args s = true
/-- what a walk over the start with the record d0 says of its end, said of the start itself -/
theorem lw_closed {s t : State} {o : Outcome} {d0 : Drawn} {L : List Loc} {k n : Nat} (hd0 : s.drawn.sameBut d0 lw_cs) (hv : ∃ v, o = .returned v) (hW : (s.setDrawn d0).WarmedH t.vm) (hs : (s.setDrawn d0).sameButNew ({ t with vm := s.vm } : State) L k n) : State.butDraws s t lw_cs (fun t1 => Framed s o t1 L k n) := by
  have h2 : t.drawn = d0 := congrArg State.drawn hs.1
  refine ⟨⟨hv, hW, State.sameButNew.setDrawn hs s.drawn⟩, ?_, by decide⟩
  rw [h2]
  exact hd0
def lw_Q (_ : Array Value) (s : State) (o : Outcome) (t : State) : Prop := o = .returned (some (.int 1)) ∧ State.butDraws s t lw_cs (fun t1 => Framed s o t1 [] 601024 7293033)
def lw_Z (below : List Frame) (a : Array Value) (s : State) : State → Prop := fun t => ∃ o, t.status = .running ∧ Ended t below o ∧ lw_Q a s o t
/-- the law's own end, with 1 on the stack, nothing written that was there before, its room as the claim has it; d0: the record of draws at this point (at the entry s.drawn: begin with 'refine W.base ?_' and 'have hd0 := Drawn.sameBut.refl s.drawn lw_cs') -/
theorem lw_ret {p : Program} {l : Launch} {e : Env} {s : State} {m : MethodId} {below : List Frame} {meth : Method} {c : Code} {b : Nat} {d0 : Drawn} (hd0 : s.drawn.sameBut d0 lw_cs) (hx : p.tables.exec = Jvm.exec) (hb : c.code = code) (hr : meth.sig.returnType = ret) (hlocks : meth.locks = false) {pc : Nat} {H : Heap} {ls : Array Slot} (hdg : decode code pc = .ok (.ireturn, 1)) : W p l e room_1 (s.setDrawn d0) m #[Value.ref b] below meth c H [] 601024 7293033 (lw_Z below #[Value.ref b] s) (F0 m pc ls [.int 1]) := by
  intro T hT X
  obtain ⟨fs, hret, hrun, hended, hW, hframe⟩ := X.leave (v := some (.int 1)) (hlocks := hlocks) (fun h => by rw [hr] at h; cases h)
  have hmeth' : T.vm.method? m = some meth := X.method'
  refine ⟨T.setFrames fs, ?_, .returned (some (.int 1)), hrun, hended, rfl, lw_closed hd0 ⟨_, rfl⟩ hW hframe⟩
  jvm_step X.here [X.here.top, hx, hb, hdg, hmeth', hr, ret, narrow_b1]
  (try refine ⟨rfl, ?_⟩); (try refine ⟨rfl, ?_⟩)
  first | (intro acts; rw [hret _ acts rfl rfl rfl]) | rw [hret _ _ rfl rfl rfl]
  exact Steps.refl _
/-- what holds at the law's entry: the machine, the code, the tables' words (any of lw_tbl by 'hts w (by decide +kernel)'), the script of L ints xs at the cell b, what the Statement gives of the start (any of its parts by flat_of_before) -/
def lw_At (p : Program) (s : State) (m : MethodId) (meth : Method) (c : Code) (b L : Nat) (xs : Nat → Int32) : Prop :=
  p.tables.exec = Jvm.exec ∧ c.code = code ∧ meth.sig.returnType = ret ∧ c.maxLocals = 9 ∧ s.vm.findClass R_law = some m.cls ∧ (∀ w ∈ lw_tbl, w.before #[Value.ref b] s = true) ∧ va_X b L xs s s.heap ∧ b < s.heap.size ∧ meth.locks = false ∧ (Jvm.Cond.and given_1 narrow_1).before #[Value.ref b] s = true
/-! the start -/
def s_J : Nat → Nat → Int32 := fun _ _ => 0
def s_N : Nat → Nat → Int32 := fun o => match o with
  | 6 => zk_FL
  | 46 => f_lim
  | _ => fun _ => 0
def s_Q : Nat → Nat → Option Nat := fun _ _ => none
def s_U : Nat → Int64 := fun _ => 0
def s_h (E : zk_E) : zk_Hp := zk_up (zk_up (h_X11 E (zk_up (h_X10 E (fun _ => none) (E.1 + 1)) E.1 (.inr (9, [.ref (E.1 + 1), .ref (E.1 + 7), .ref (E.1 + 15), .ref (E.1 + 18), .int 0]))) (E.1 + 23)) (E.1 + 22) (o_X11 (E.1 + 23))) (E.1 + 54) (.inl (zk_ar E 2, 1, .inr (.inl (fun _ => 0))))
theorem s_lim : ∀ i, i < 10 → zk_FL i = f_lim i := by
  intro i hi
  match i, hi with
  | 0, _ => decide
  | 1, _ => decide
  | 2, _ => decide
  | 3, _ => decide
  | 4, _ => decide
  | 5, _ => decide
  | 6, _ => decide
  | 7, _ => decide
  | 8, _ => decide
  | 9, _ => decide
theorem s_mi : MI s_J s_N := by
  have z : (0 : Int32) = nI 0 := rfl
  have n0 : m_nr s_J = 0 := rfl
  have d0 : m_nd s_J = 0 := rfl
  have w0 : m_nw s_J = 0 := rfl
  have t0 : m_ns s_J = 0 := rfl
  refine ⟨⟨⟨rfl, by omega⟩, ⟨rfl, by omega⟩, ⟨rfl, by omega⟩, ⟨rfl, by omega⟩⟩, fun j hj => by omega, fun j hj => by omega, fun j hj => by omega, fun j hj => by omega, fun i hi => ?_, fun d _ _ => rfl⟩
  show VN (f_lim i) 0 999
  match i, hi with
  | 0, _ => exact ⟨0, by decide, by decide, by decide⟩
  | 1, _ => exact ⟨120, by decide, by decide, by decide⟩
  | 2, _ => exact ⟨8, by decide, by decide, by decide⟩
  | 3, _ => exact ⟨4, by decide, by decide, by decide⟩
  | 4, _ => exact ⟨10, by decide, by decide, by decide⟩
  | 5, _ => exact ⟨12, by decide, by decide, by decide⟩
  | 6, _ => exact ⟨50, by decide, by decide, by decide⟩
  | 7, _ => exact ⟨3, by decide, by decide, by decide⟩
  | 8, _ => exact ⟨60, by decide, by decide, by decide⟩
  | 9, _ => exact ⟨0, by decide, by decide, by decide⟩
theorem s_li (E : zk_E) (O : zk_Hp) : LI E (E.1 + 55) (s_J, s_N, s_Q, O, s_U) := by
  have n0 : m_nr s_J = 0 := rfl
  have d0 : m_nd s_J = 0 := rfl
  have w0 : m_nw s_J = 0 := rfl
  have t0 : m_ns s_J = 0 := rfl
  refine ⟨Nat.le_refl _, s_mi, ⟨⟨rfl, rfl, rfl, rfl, s_lim⟩, fun r _ => Or.inr ⟨fun h => ?_, rfl⟩, fun r _ => Or.inr ⟨fun h => ?_, rfl⟩, fun r _ => Or.inr ⟨fun h => ?_, rfl⟩, fun r _ => Or.inr ⟨fun h => ?_, rfl⟩, fun d d2 a _ _ h => by cases h⟩, Or.inl rfl⟩
  · have h9 : r < m_nr s_J := h.1
    omega
  · have h9 : r < m_nd s_J := h.1
    omega
  · have h9 : r < m_nw s_J := h.1
    omega
  · have h9 : r < m_ns s_J := h.1
    omega
theorem up_o (h : zk_Hp) (n j k : Nat) (e : va_E) : zk_up h (n + j) e (n + k) = cond (k == j) (some e) (h (n + k)) := by
  unfold zk_up
  by_cases q : k = j
  · subst q
    rw [if_pos rfl, beq_self_eq_true]
    rfl
  · rw [if_neg (by omega), beq_eq_false_iff_ne.mpr q]
    rfl
set_option maxHeartbeats 8000000 in
theorem s_in (E : zk_E) : ∀ a e, zk_view E (s_J, s_N, s_Q, fun _ => none, s_U) a = some e → s_h E a = some e := by
  intro a e h
  unfold zk_view at h
  split at h
  · cases h
  · rename_i h1 h2
    have h1 := of_decide_eq_false h1
    have h2 := of_decide_eq_true h2
    obtain ⟨k, rfl⟩ : ∃ k, a = E.1 + k := ⟨a - E.1, by omega⟩
    rw [Nat.add_sub_cancel_left] at h
    have hk : k < 55 := by omega
    have e0 : s_h E = zk_up (zk_up (h_X11 E (zk_up (h_X10 E (fun _ => none) (E.1 + 1)) (E.1 + 0) (.inr (9, [.ref (E.1 + 1), .ref (E.1 + 7), .ref (E.1 + 15), .ref (E.1 + 18), .int 0]))) (E.1 + 23)) (E.1 + 22) (o_X11 (E.1 + 23))) (E.1 + 54) (.inl (zk_ar E 2, 1, .inr (.inl (fun _ => 0)))) := rfl
    rw [e0]
    unfold h_X11 h_X10 h_X3 h_X0 h_X8 h_X5 o_X11
    simp only [Nat.add_assoc, Nat.reduceAdd]
    rcases Nat.lt_or_ge k 28 with q | q
    · have hq : k = 0 ∨ k = 1 ∨ k = 2 ∨ k = 3 ∨ k = 4 ∨ k = 5 ∨ k = 6 ∨ k = 7 ∨ k = 8 ∨ k = 9 ∨ k = 10 ∨ k = 11 ∨ k = 12 ∨ k = 13 ∨ k = 14 ∨ k = 15 ∨ k = 16 ∨ k = 17 ∨ k = 18 ∨ k = 19 ∨ k = 20 ∨ k = 21 ∨ k = 22 ∨ k = 23 ∨ k = 24 ∨ k = 25 ∨ k = 26 ∨ k = 27 := by omega
      rcases hq with rfl | rfl | rfl | rfl | rfl | rfl | rfl | rfl | rfl | rfl | rfl | rfl | rfl | rfl | rfl | rfl | rfl | rfl | rfl | rfl | rfl | rfl | rfl | rfl | rfl | rfl | rfl | rfl <;> (cases h; simp only [up_o, Nat.reduceBEq, cond_true, cond_false]; rfl)
    · have hq : k = 28 ∨ k = 29 ∨ k = 30 ∨ k = 31 ∨ k = 32 ∨ k = 33 ∨ k = 34 ∨ k = 35 ∨ k = 36 ∨ k = 37 ∨ k = 38 ∨ k = 39 ∨ k = 40 ∨ k = 41 ∨ k = 42 ∨ k = 43 ∨ k = 44 ∨ k = 45 ∨ k = 46 ∨ k = 47 ∨ k = 48 ∨ k = 49 ∨ k = 50 ∨ k = 51 ∨ k = 52 ∨ k = 53 ∨ k = 54 := by omega
      rcases hq with rfl | rfl | rfl | rfl | rfl | rfl | rfl | rfl | rfl | rfl | rfl | rfl | rfl | rfl | rfl | rfl | rfl | rfl | rfl | rfl | rfl | rfl | rfl | rfl | rfl | rfl | rfl <;> (cases h; simp only [up_o, Nat.reduceBEq, cond_true, cond_false]; rfl)
  · cases h
theorem zl_ret {p : Program} {l : Launch} {e : Env} {s : State} {m : MethodId} {below : List Frame} {meth : Method} {c : Code} {b : Nat} {E : zk_E} {S : Type} {V : zk_V S} (hx : p.tables.exec = Jvm.exec) (hb : c.code = code) (hr : meth.sig.returnType = ret) (hlocks : meth.locks = false) (hE : E.1 = s.heap.size) : zk_Ret p l e room_1 s m #[Value.ref b] below meth c (lw_Z below #[Value.ref b] s) E V M_L_law (zl_P S) cL_law := by
  intro v w pc st H locs ls hP hc hs hz hrr hS hd
  rcases hd with ⟨x, rfl, rfl, hd, hn⟩ | ⟨x, rfl, rfl, hd, h9⟩ | ⟨x, rfl, rfl, hd, h9⟩ | ⟨x, rfl, rfl, hd, h8, rt, h9, h10⟩ | ⟨rfl, rfl, hd, h9⟩
  · have hP : (some (Value.int x)) = some (Value.int 1) := hP
    cases hP
    refine W.widen (k := 601024) (n := 7293033) hc hs ?_
    refine va_forget (fun q hq => by have := hS.2.2 q hq; have h9 : E.1 ≤ q.base := this; omega) ?_
    refine W.base ?_
    exact lw_ret (Drawn.sameBut.refl s.drawn lw_cs) hx hb hr hlocks hd
  · have hP : (some (Value.long x)) = some (Value.int 1) := hP
    cases hP
  · have hP : (some (Value.double x)) = some (Value.int 1) := hP
    cases hP
  · have hP : (some x) = some (Value.int 1) := hP
    cases hP
    rcases zk_isr_cases h8 with h | ⟨a, h⟩ <;> cases h
  · have hP : (none : Option Value) = some (Value.int 1) := hP
    cases hP
theorem whole_start {p : Program} {e : Env} {s : State} {m : MethodId} {below : List Frame} {meth : Method} {c : Code} (l : Launch) (hflags : l.flags = flags0) {b L : Nat} {xs : Nat → Int32} (hL : L ≤ 3584) (C0 : lw_At p s m meth c b L xs) : W p l e room_1 s m #[Value.ref b] below meth c s.heap [] 0 0 (lw_Z below #[Value.ref b] s) (entryFrame m ([Value.ref b] : List Value).toArray 9) := by
  obtain ⟨hx, hb, hr, hml, hown, hts, hX, hbl, hlocks, hgv⟩ := id C0
  have hl : l.stackTraces = false := by
    unfold Launch.stackTraces
    rw [hflags]
    decide +kernel
  obtain ⟨D, cT, hK0⟩ := zk_K_of hts hgv
  obtain ⟨E, hEe⟩ : ∃ E : zk_E, E = (s.heap.size, D, cT) := ⟨_, rfl⟩
  rw [← hEe] at hK0
  have hE1 : E.1 = s.heap.size := by rw [hEe]
  have X0 : zk_Ctx RL cL_law 9 E p s m #[Value.ref b] c := ⟨hx, hb, hml, hown, fun w hw => hts w (zk_WS_tbl hw), hK0, Nat.le_of_eq hE1⟩
  have hGT : ∀ n pc Lc st w, zl_go E (C_law E) b L xs (zk_G p l e room_1 s m #[Value.ref b] below meth c (lw_Z below #[Value.ref b] s) E (zk_VT E) 9) n pc Lc st w → zk_G p l e room_1 s m #[Value.ref b] below meth c (lw_Z below #[Value.ref b] s) E (zk_VT E) 9 pc Lc st w := fun n pc Lc st w h => zl_go_ok X0 hX hbl hE1 (zl_ret hx hb hr hlocks hE1) (co_law hl X0) n pc Lc st w h
  have hGH : ∀ n pc Lc st w, zk_go E zk_VH M_L_law (C_law0 E) (zl_P zk_Hp) (zl_X zk_Hp) (zk_G p l e room_1 s m #[Value.ref b] below meth c (lw_Z below #[Value.ref b] s) E zk_VH 9) n pc Lc st w → zk_G p l e room_1 s m #[Value.ref b] below meth c (lw_Z below #[Value.ref b] s) E zk_VH 9 pc Lc st w := fun n pc Lc st w h => zk_go_ok X0 zk_VH_ok ⟨Nat.le_refl _, Nat.le_refl _⟩ MO_L_law TO_L_law (zl_ret hx hb hr hlocks hE1) zl_thr zl_xc (co_law0 hl X0) n pc Lc st w h
  have h23 : zk_G p l e room_1 s m #[Value.ref b] below meth c (lw_Z below #[Value.ref b] s) E zk_VH 9 23 [some (.ref b), some (.ref E.1), some (.ref (E.1 + 22)), some (.ref (E.1 + 54)), some (.int 0), none, none, none, none] [] (s_h E, E.1 + 55, 55, 3236) := by
    intro H locs ls hz hr2 hS hlv
    have key := law_loop hGT hL 3584 0 none none none none (s_J, s_N, s_Q, (fun _ => none), s_U) (E.1 + 55) 55 3236 (by omega) (Nat.zero_le _) (s_li E _) (by decide) (by decide)
    exact key H locs ls hz (fun a e2 ha => hr2 a e2 (s_in E a e2 ha)) hS hlv
  have h0 : zk_G p l e room_1 s m #[Value.ref b] below meth c (lw_Z below #[Value.ref b] s) E zk_VH 9 0 [some (.ref b), none, none, none, none, none, none, none, none] [] ((fun _ => none), E.1, 0, 0) := by
    unfold s_h at h23
    refine hGH 900 _ _ _ _ ?_
    simp only [r_law_h, zk_kl_none, zk_kl_int, zk_kl_ref, zk_kl_null, zk_kl_long, zk_kl_rf, zk_isr_ref, zk_isr_null, zk_isr_rf9, zk_c1_int, zk_c1_ref, zk_c1_null, zk_c1_rf, zk_psh_some, zk_psh_none, zk_nok_int, zk_nok_bool0, zk_nok_bool1, zk_nok_b, zk_fok_0, zk_fok_1, zk_fok_2, zk_fok_n, zk_fok_rf, zb_f, zb_p, zb_i, zb_a, zb_s, zk_nth_0, zk_nth_s, zk_fld_o, zk_put_o, zk_rv_eq, zk_ri_eq, zk_is_o, List.mem_cons, List.not_mem_nil, or_false, false_or, or_true, true_or, and_true, true_and, not_false_iff, not_true_eq_false, true_implies, false_implies, imp_self, implies_true, forall_const, zk_lit, zk_uj_ap, zk_un_ap, zk_un_un, zk_uj_uj, Nat.reduceEqDiff, eq_self, zk_bq, Bool.true_or, Bool.false_or, Nat.le_refl, Nat.zero_add, Nat.add_zero, Nat.reduceAdd, Nat.reduceLeDiff, Nat.le_zero_eq, and_self, and_false, false_and, ite_true, ite_false, Nat.zero_le, List.length_cons, List.length_nil, Option.some.injEq, forall_eq', reduceCtorEq, vh_1, vh_2, vh_3, vh_4, vh_5, spe_X10_init, hc_w, hc_m]
    refine ⟨Nat.lt_succ_self _, _, rfl, ?_⟩
    simp only [r_law_h, zk_kl_none, zk_kl_int, zk_kl_ref, zk_kl_null, zk_kl_long, zk_kl_rf, zk_isr_ref, zk_isr_null, zk_isr_rf9, zk_c1_int, zk_c1_ref, zk_c1_null, zk_c1_rf, zk_psh_some, zk_psh_none, zk_nok_int, zk_nok_bool0, zk_nok_bool1, zk_nok_b, zk_fok_0, zk_fok_1, zk_fok_2, zk_fok_n, zk_fok_rf, zb_f, zb_p, zb_i, zb_a, zb_s, zk_nth_0, zk_nth_s, zk_fld_o, zk_put_o, zk_rv_eq, zk_ri_eq, zk_is_o, List.mem_cons, List.not_mem_nil, or_false, false_or, or_true, true_or, and_true, true_and, not_false_iff, not_true_eq_false, true_implies, false_implies, imp_self, implies_true, forall_const, zk_lit, zk_uj_ap, zk_un_ap, zk_un_un, zk_uj_uj, Nat.reduceEqDiff, eq_self, zk_bq, Bool.true_or, Bool.false_or, Nat.le_refl, Nat.zero_add, Nat.add_zero, Nat.reduceAdd, Nat.reduceLeDiff, Nat.le_zero_eq, and_self, and_false, false_and, ite_true, ite_false, Nat.zero_le, List.length_cons, List.length_nil, Option.some.injEq, forall_eq', reduceCtorEq, vh_1, vh_2, vh_3, vh_4, vh_5, spe_X11_init, hc_w, hc_m, Nat.add_assoc]
    refine ⟨Nat.lt_succ_self _, _, rfl, ?_⟩
    simp only [r_law_h, zk_kl_none, zk_kl_int, zk_kl_ref, zk_kl_null, zk_kl_long, zk_kl_rf, zk_isr_ref, zk_isr_null, zk_isr_rf9, zk_c1_int, zk_c1_ref, zk_c1_null, zk_c1_rf, zk_psh_some, zk_psh_none, zk_nok_int, zk_nok_bool0, zk_nok_bool1, zk_nok_b, zk_fok_0, zk_fok_1, zk_fok_2, zk_fok_n, zk_fok_rf, zb_f, zb_p, zb_i, zb_a, zb_s, zk_nth_0, zk_nth_s, zk_fld_o, zk_put_o, zk_rv_eq, zk_ri_eq, zk_is_o, List.mem_cons, List.not_mem_nil, or_false, false_or, or_true, true_or, and_true, true_and, not_false_iff, not_true_eq_false, true_implies, false_implies, imp_self, implies_true, forall_const, zk_lit, zk_uj_ap, zk_un_ap, zk_un_un, zk_uj_uj, Nat.reduceEqDiff, eq_self, zk_bq, Bool.true_or, Bool.false_or, Nat.le_refl, Nat.zero_add, Nat.add_zero, Nat.reduceAdd, Nat.reduceLeDiff, Nat.le_zero_eq, and_self, and_false, false_and, ite_true, ite_false, Nat.zero_le, List.length_cons, List.length_nil, Option.some.injEq, forall_eq', reduceCtorEq, vh_1, vh_2, vh_3, vh_4, vh_5, hc_n, hc_l, zk_nar_l, Nat.add_assoc]
    exact h23
  rw [lg_entry_eq]
  exact h0 s.heap [] _ hE1.symm (fun a e2 ha => by cases ha) va_S.rf (zk_lv_ent [.ref b] (Nat.le_of_ble_eq_true rfl))
set_option maxHeartbeats 4000000 in
theorem lw_walk (l : Launch) (hflags : l.flags = flags0) (b : Addr) (xs : List Int32) : MetFree l x (headSpec (Jvm.Cond.code x code maxLocals ret :: tables_1) room_1) (lw_P b xs) (fun _ _ _ _ _ => True) lw_Q := by
  refine MetFree.of_bodyS (code := code) (maxLocals := maxLocals) (ret := ret) (by decide) ?_ ?_
  · intro args s m h hn
    obtain ⟨meth, c, h1, h2, h3, h4, h5, h6, -, -⟩ := Cond.code_spec hn (atoms_spec (ws := Jvm.Cond.code x code maxLocals ret :: tables_1) h _ List.mem_cons_self)
    exact ⟨meth, c, h1, h2, h3, h4, h5, h6⟩
  · intro p e s m args below meth c s₁ B hml0 hP _
    obtain ⟨rfl, hx, hbd, hgv⟩ := hP
    obtain ⟨scr, harrAt, hlist, hof, hsmall⟩ := hx
    obtain ⟨hcb, hkn, -, -⟩ := State.arrayAt?_spec harrAt
    have hown : s.vm.findClass R_law = some m.cls := findClass_of_methodNamed B.named
    have hts0 : ∀ c ∈ (Jvm.Cond.code x code maxLocals ret :: tables_1), c.before #[Value.ref b] s = true := atoms_spec (ws := Jvm.Cond.code x code maxLocals ret :: tables_1) B.pre
    have hts : ∀ w ∈ lw_tbl, w.before #[Value.ref b] s = true := k2_hts_sels lw_privs (fun w hw => hts0 w (List.mem_cons_of_mem _ hw)) lw_privs_ok
    have hml : c.maxLocals = 9 := B.maxLocals_eq (hts0 _ List.mem_cons_self)
    have X₀ : Stand p l e room_1 s m #[Value.ref b] below meth c s₁ [] 0 0 := Stand.of_body B
    have hh0 : s₁.heap = s.heap := by rw [B.state]; rfl
    have hsz : scr.slots.size = xs.length := by rw [← Array.length_toList, hlist, List.length_map]
    have hval : ∀ j : Nat, j < xs.length → scr.slots[j]? = some (.int (xs.getD j 0)) := fun j hj => by
      rw [← Array.getElem?_toList, hlist]
      simp [hj]
    have hbl : b < s.heap.size := (Array.getElem?_eq_some_iff.mp hcb).1
    have hX : va_X b xs.length (fun j => xs.getD j 0) s s.heap := ⟨scr, hcb, hof, hkn, hsz, hval⟩
    have K : W p l e room_1 s m #[Value.ref b] below meth c s₁.heap [] 0 0 (lw_Z below #[Value.ref b] s) (entryFrame m ([Value.ref b] : List Value).toArray 9) := by
      rw [hh0]
      exact whole_start l hflags hbd ⟨B.exec, B.bytes, B.returns, hml, hown, hts, hX, hbl, B.notSynchronized, hgv⟩
    obtain ⟨t, a1, o, b1, b2, b3⟩ := K s₁ rfl X₀
    exact ⟨t, o, a1, b1, b2, b3⟩
theorem lw_pre_spec {args : Array Value} {s : State} (h : (Jvm.Cond.and given_1 narrow_1).before args s = true) (hr : rest_1_c.before args s = true) : ∃ (b : Addr) (xs : List Int32), lw_P b xs args s := by
  have hs := flat_of_before _ h
  have hq := flat_of_before _ hr
  have hc : (Cond.count 1).before args s = true := hs _ (by decide +kernel)
  have harr : (Cond.arrayOf (.arg 0) .int).before args s = true := hs _ (by decide +kernel)
  have hle : (Cond.le (.length (.arg 0)) (.int 3584)).before args s = true := hs _ (by decide +kernel)
  have hlen : (Cond.isInt (.length (.arg 0))).before args s = true := hq _ (by decide +kernel)
  have hall : (Cond.all (.arg 0) (.isInt (.elem (.arg 0) (.index 0)))).before args s = true := hq _ (by decide +kernel)
  obtain ⟨b, xs, hb, hx⟩ := State.ints_of_pre rfl harr hlen hall
  have hsm : xs.length < 2 ^ 31 := hx.choose_spec.2.2.2
  have hev : (Term.length (.arg 0)).eval args s none [] s = some (.int xs.length.toInt32) := hx.length_eval hb
  have hv := Cond.le_ints hev (show (Term.int 3584).eval args s none [] s = some (.int 3584) from rfl)
  have hd : xs.length.toInt32 ≤ 3584 := by
    simpa [Cond.before, Cond.holds, hv] using hle
  have hN : xs.length ≤ 3584 := (Int32.ofNat_le_ofNat hsm (by decide)).mp (show Int32.ofNat xs.length ≤ Int32.ofNat 3584 from hd)
  exact ⟨b, xs, Cond.one_arg hc (show args[0]? = some (.ref b) from hb), hx, hN, h⟩
theorem lw_comes (l : Launch) (hflags : l.flags = flags0) : Comes l x (Jvm.Cond.code x code maxLocals ret :: tables_1) room_1 (fun tb e args s => Calls_1 tb e args s ∧ rest_1 tb e args s ∧ Pre_1 tb e args s)
    (fun _ _ args s o t => lw_Q args s o t) := by
  intro p e ha hc hk s m args below hf hfit hheap happ hpre
  obtain ⟨b, xs, hP⟩ := lw_pre_spec hpre.2.2 hpre.2.1
  obtain ⟨k, o, h1, h2, h3, hQ⟩ := lw_walk l hflags b xs p e ha hc hk s m args below hf ((Spec.applies_iff_loose hf).mp happ).1 hP trivial
  exact ⟨k, o, h1, h2, h3, hQ⟩
theorem lw_frame {s t : State} {o : Outcome} {args : Array Value} (h : State.butDraws s t lw_cs (fun t1 => Framed s o t1 [] 601024 7293033)) :
    State.butDraws s t [Jvm.Choice.named "NaN.bits"] (fun t1 => Framed s o t1 (fieldLocs frame_1_writes args s ++ arrayLocs frame_1_arrays args s ++ staticLocs frame_1_statics s) 601024 7293033) := h
theorem lw_limb (L : Cond) (hL : ∀ (args : Array Value) (s t : State), L.after args s (.returned (some (.int 1))) t = true) :
    ArmFor flags0 classFile x code maxLocals ret World_1 tables_1 room_1 Calls_1 rest_1 Pre_1
      (fun tb e a s o t => postC L tb e a s o t ∧ State.butDraws s t [Jvm.Choice.named "NaN.bits"] (fun t1 => Framed s o t1 (fieldLocs frame_1_writes a s ++ arrayLocs frame_1_arrays a s ++ staticLocs frame_1_statics s) 601024 7293033)) := by
  intro l hflags _ _ p e ha hc hk s m args below hf hfit hheap happ hpre
  obtain ⟨k, o, h1, h2, h3, rfl, hF⟩ := lw_comes l hflags p e ha hc hk s m args below hf hfit hheap happ hpre
  exact ⟨k, _, h1, h2, h3, hL args s _, lw_frame hF⟩
theorem i_vc : Claimed_1_1 ∧ Claimed_1_2 := ⟨lw_limb limb_1_1 (fun args s t => by simp [limb_1_1, Cond.after, Cond.holds, Cond.value]), lw_limb limb_1_2 (fun args s t => Cond.after_iff.mpr (by
  first | (rw [show limb_1_2 = Cond.eq .result (.int 1) from rfl, Cond.eq_ints (x := 1) (y := 1) rfl rfl]; simp; done) | (simp [limb_1_2, Cond.value, Term.eval]; done)))⟩

