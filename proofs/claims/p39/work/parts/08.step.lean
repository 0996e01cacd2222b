/-! every step is sound; a method's contract -/
theorem zk_w_oi1 : Cond.instanceMethod Lib.objectInit ∈ zk_WS := zk_wi 57 (by decide +kernel) rfl
theorem zk_w_oi2 : Cond.code Lib.objectInit ⟨#[0xb1]⟩ 1 none ∈ zk_WS := zk_wi 58 (by decide +kernel) rfl
theorem zk_w_cl1 : Cond.methodLink RX5 39 ⟨"[I", "clone", "()Ljava/lang/Object;"⟩ ∈ zk_WS := zk_wi 436 (by decide +kernel) rfl
theorem zk_w_cl2 : Cond.sameMethod "[I" "java/lang/Object" "clone" "()Ljava/lang/Object;" ∈ zk_WS := zk_wi 437 (by decide +kernel) rfl
theorem zk_w_cl3 : Cond.native ⟨"java/lang/Object", "clone", "()Ljava/lang/Object;"⟩ ∈ zk_WS := zk_wi 438 (by decide +kernel) rfl
theorem zk_w_cl4 : Cond.instanceMethod ⟨"java/lang/Object", "clone", "()Ljava/lang/Object;"⟩ ∈ zk_WS := zk_wi 439 (by decide +kernel) rfl
theorem zk_w_cl5 : Cond.selects "[I" ⟨"[I", "clone", "()Ljava/lang/Object;"⟩ ⟨"java/lang/Object", "clone", "()Ljava/lang/Object;"⟩ ∈ zk_WS := zk_wi 440 (by decide +kernel) rfl
theorem zk_w_cl6 : Cond.castable "[I" "java/lang/Cloneable" ∈ lw_tbl := zk_tb 441 (by decide +kernel)
theorem zk_w_cl7 : Cond.classLink RX5 40 "[I" ∈ zk_WS := zk_wi 442 (by decide +kernel) rfl
theorem zk_w_cl8 : Cond.fieldLinkNest RX5 35 "ClerestoryPlan" "FIRST_LIMITS" "[I" "ClerestoryPlan" ∈ lw_tbl := zk_tb 434 (by decide +kernel)
section ZL
variable {p : Program} {l : Launch} {e : Env} {R : Room} {s : State} {m : MethodId} {args : Array Value} {below : List Frame} {meth : Method} {c : Code} {H : Heap} {locs : List Loc} {cells slots : Nat} {Q : State → Prop}
variable {E : zk_E} {h : zk_Hp} {cc : ByteArray} {pc : Nat} {ls : Array Slot} {r : List Value}
/-- the limits' copy: getstatic, clone, checkcast -/
theorem zk_row_lim (hx : p.tables.exec = Jvm.exec) (hb : c.code = cc) (hml : c.maxLocals = ls.size) (hts : ∀ w ∈ zk_WS, w.before args s = true) (hown : s.vm.findClass RX5 = some m.cls) (hk : zk_K E s) (hr : zk_R E h H) (hS : va_S (zk_A E) s.heap H locs) (hA : ∀ q, s.heap.size ≤ q → zk_A E q) {sz : Nat} (hz : H.size = sz) (hc : cells + 1 ≤ R.cells) (hs : slots + 10 ≤ R.slots) (hfr : 1 ≤ R.frames) (hlo : 22 ≤ R.locals) (hrl : r.length ≤ 4)
    (d0 : decode cc pc = .ok (.getstatic 35, 3)) (d3 : decode cc (pc + 3) = .ok (.invokevirtual 39, 3)) (d6 : decode cc (pc + 6) = .ok (.checkcast 40, 3))
    (kk : ∀ (H2 : Heap), H2.size = sz + 1 → zk_R E (zk_up h sz (.inl (E.2.2 0, 10, .inl zk_FL))) H2 → va_S (zk_A E) s.heap H2 locs → W p l e R s m args below meth c H2 locs (cells + 1) (slots + 10) Q (F0 m (pc + 9) ls (.ref sz :: r))) : W p l e R s m args below meth c H locs cells slots Q (F0 m pc ls r) := by
  subst hz
  obtain ⟨t, cell, hZ, hcell, hnA, hc1, hc2, hc3, hc4, -⟩ := hk.2.2.2.2.2.2
  have htl : t < s.heap.size := (Array.getElem?_eq_some_iff.mp hcell).1
  have hH : H[t]? = some cell := by rw [hS.2.1 t htl hnA]; exact hcell
  refine va_getsN hx hb hZ hS hown (va_Nw.use rfl (hk.2.2.2.1 _ zk_w_cl8 rfl)) (fun _ z => z) d0 ?_
  have hnm : s.vm.findClass "[I" = some (E.2.2 0) := (hk.1.2 0 (E.2.2 0, .int) rfl).2
  have hsz10 : cell.slots.size = 10 := by rw [hc2]; exact arrV_size _ _ _
  have hcellE : ({ cls := cell.cls, slots := cell.slots } : Cell) = vp_cell (E.2.2 0) (10, .inl zk_FL) := by rw [hc1, hc2]; rfl
  obtain ⟨c0, t0', f1, f2, f3⟩ := Cond.castable_spec (va_Nw.use (A := args) rfl (hk.2.2.2.1 _ zk_w_cl6 rfl))
  cases hnm.symm.trans f1
  intro T hT X
  have hcellT : T.heap[t]? = some cell := by rw [hT]; exact hH
  obtain ⟨-, kA, hkA, comp, hkind⟩ := State.isArrayOf_alike X.warmed.alike ((hk.1.2 0 _ rfl).1 0 (fun _ => .null))
  obtain ⟨-, kS, hkS, compS, hkindS⟩ := (hk.1.2 0 _ rfl).1 0 (fun _ => .null)
  have hcats := zk_cats_le r
  obtain ⟨vm', X', st⟩ := X.cloneArray hx hown (hts _ zk_w_cl1) (hts _ zk_w_cl2) (hts _ zk_w_cl3) (hts _ zk_w_cl4) (hts _ zk_w_cl5) (a := t) (cell := cell) hcellT hc3 hc4 (by rw [hc1]; exact hnm) f2 (by rw [hc1]; exact f3)
    (fun i v hv => by
      have hk' : T.vm.classes[E.2.2 0]? = some kA := hkA
      have hv2 : ∃ x, v = .int x := by
        rw [hc2] at hv
        have h9 : (arrV (E.2.2 0) 10 (fun j => .int (zk_FL j))).slots[i]? = some v := hv
        have hi : i < 10 := by
          have := (Array.getElem?_eq_some_iff.mp h9).1
          rwa [arrV_size] at this
        rw [arrV_read _ _ hi] at h9
        exact ⟨_, (Option.some.inj h9).symm⟩
      obtain ⟨x, rfl⟩ := hv2
      rw [hc1]
      simp [State.fitsSlot, State.slotType?, hk', hkind, fits])
    (g := F0 m (pc + 3) ls (.ref t :: r)) rfl (by rw [hml]) rfl (by rw [hb]; exact d3) hfr (by show 2 * 0 + _ + 14 ≤ _; omega) hc (by rw [hsz10]; exact hs) (hloader := by rw [hc1]; exact Vm.clonesLoader_of_array hkS hkindS)
  rw [hcellE, hsz10] at X'
  generalize hH1 : H.push (vp_cell (E.2.2 0) (10, .inl zk_FL)) = H1
  have z1 : H1.size = H.size + 1 := by rw [← hH1, Array.size_push]
  have e1 : H1[H.size]? = some (vp_cell (E.2.2 0) (10, .inl zk_FL)) := by rw [← hH1, Array.getElem?_push_size]
  have o1 : ∀ q : Nat, q < H.size → H1[q]? = H[q]? := fun q hq => by rw [← hH1, Array.getElem?_push, if_neg (Nat.ne_of_lt hq)]
  have hR1 : zk_R E (zk_up h H.size (.inl (E.2.2 0, 10, .inl zk_FL))) H1 := hr.up e1 (fun q _ z => o1 q z)
  have fin : W p l e R s m args below meth c H1 locs (cells + 1) (slots + 10) Q (F0 m (pc + 6) ls (.ref H.size :: r)) := by
    refine va_castA (D := E.2.1) (cl := vwCl) (ws := [(H.size, .inl (E.2.2 0, 10, .inl zk_FL))]) (cA := E.2.2 0) (x := (10, .inl zk_FL)) hx hb hown (hts _ zk_w_cl7) ?_ 0 rfl hnm d6 (kk H1 z1 hR1 (zk_S_push hS z1 o1))
    intro k q hq
    match k, hq with
    | 0, hq => cases hq; exact e1
  obtain ⟨t9, b1, b2⟩ := fin ((T.setVm vm').pushCell (vp_cell (E.2.2 0) (10, .inl zk_FL))) (by rw [← hH1, ← hT]; rfl) X'
  refine ⟨t9, st t9 ?_, b2⟩
  rw [hcellE, hT]
  exact b1
end ZL
theorem zk_w_m0 : Cond.initialized "java/lang/Math" ∈ zk_WS := zk_wi 13 (by decide +kernel) rfl
theorem zk_w_ms : Cond.static Lib.Math.min.name ∈ zk_WS := zk_wi 202 (by decide +kernel) rfl
theorem zk_w_mc : Cond.code Lib.Math.min.name Lib.Math.min.code 2 (some .int) ∈ zk_WS := zk_wi 203 (by decide +kernel) rfl
theorem zk_w_xs : Cond.static Lib.Math.max.name ∈ zk_WS := zk_wi 159 (by decide +kernel) rfl
theorem zk_w_xc : Cond.code Lib.Math.max.name Lib.Math.max.code 2 (some .int) ∈ zk_WS := zk_wi 160 (by decide +kernel) rfl
theorem zk_w_as : Cond.static Lib.Math.abs.name ∈ zk_WS := zk_wi 141 (by decide +kernel) rfl
theorem zk_w_ac : Cond.code Lib.Math.abs.name Lib.Math.abs.code 1 (some .int) ∈ zk_WS := zk_wi 142 (by decide +kernel) rfl
section ZT
variable {S : Type} {p : Program} {l : Launch} {e : Env} {R : Room} {s : State} {m : MethodId} {args : Array Value} {below : List Frame} {meth : Method} {c : Code} {Q : State → Prop}
variable {E : zk_E} {V : zk_V S} {M : zk_M} {C : zk_Cl S} {P : zk_P S} {PX : zk_X S} {cc : ByteArray} {own : String} {nL : Nat}
def zk_mname (tag : Nat) : MethodName := match tag with
  | 0 => Lib.Math.min.name
  | 1 => Lib.Math.max.name
  | _ => Lib.Math.abs.name
def zk_MT (own : String) (cc : ByteArray) (R : Room) (pc tag : Nat) : Prop := ∃ idx, decode cc pc = .ok (.invokestatic idx, 3) ∧ Cond.methodLink own idx (zk_mname tag) ∈ zk_WS ∧ 1 ≤ R.frames ∧ 23 ≤ R.locals
/-- throws, Object.<init> and the limits' copy, as the tables have them -/
def zk_TO (own : String) (cc : ByteArray) (R : Room) (M : zk_M) : Prop :=
  (∀ pc, M.2.2.2.2.2.2.1 pc = true → ∃ idx, decode cc pc = .ok (.invokespecial idx, 3) ∧ Cond.methodLink own idx Lib.objectInit ∈ zk_WS ∧ 1 ≤ R.frames ∧ 20 ≤ R.locals) ∧
  (∀ pc, M.2.2.2.2.2.2.2.1 pc = true → own = RX5 ∧ decode cc pc = .ok (.getstatic 35, 3) ∧ decode cc (pc + 3) = .ok (.invokevirtual 39, 3) ∧ decode cc (pc + 6) = .ok (.checkcast 40, 3) ∧ 1 ≤ R.frames ∧ 22 ≤ R.locals) ∧
  (∀ pc tag, M.2.2.2.2.2.2.2.2 pc = some tag → zk_MT own cc R pc tag)
def zk_Thr (p : Program) (l : Launch) (e : Env) (R : Room) (s : State) (m : MethodId) (args : Array Value) (below : List Frame) (meth : Method) (c : Code) (Q : State → Prop) (E : zk_E) (V : zk_V S) (M : zk_M) (PX : zk_X S) (nL : Nat) : Prop :=
  ∀ (pc : Nat) (X : String) (w : zk_W S) (H : Heap) (locs : List Loc) (ls : Array Slot), M.2.2.2.2.1 pc = some X → (∀ z2, w.2.1 ≤ z2 → PX X w.1 z2) → w.2.2.1 + 1 ≤ M.2.2.2.1.2.1 → w.2.2.2 + 6 ≤ M.2.2.2.1.2.2 → H.size = w.2.1 → zk_R E (V.1 w.1) H → va_S (zk_A E) s.heap H locs → ls.size = nL → W p l e R s m args below meth c H locs w.2.2.1 w.2.2.2 Q (F0 m pc ls [])
def zk_Xc (p : Program) (l : Launch) (e : Env) (R : Room) (s : State) (m : MethodId) (args : Array Value) (below : List Frame) (meth : Method) (c : Code) (Q : State → Prop) (E : zk_E) (V : zk_V S) (M : zk_M) (PX : zk_X S) (nL : Nat) : Prop :=
  ∀ (pc : Nat) (X : String) (σ : S) (k n : Nat) (ce : Cell) (q : Nat) (rest : List Value) (H : Heap) (locs : List Loc) (ls : Array Slot), k ≤ M.2.2.2.1.2.1 → n ≤ M.2.2.2.1.2.2 → (match M.2.2.2.2.2.1 pc X with
    | some hp => W p l e R s m args below meth c H locs k n Q (F0 m hp ls [.ref q])
    | none => PX X σ H.size) → zk_R E (V.1 σ) H → va_S (zk_A E) s.heap H locs → ls.size = nL → H[q]? = some ce → ce.vm = .none → s.vm.findClass X = some ce.cls → vx_W p l e R s m args below meth c H locs k n Q (F0 m pc ls rest) q
theorem zk_step_ok (X : zk_Ctx own cc nL E p s m args c) (hV : zk_VK E V) (hR : M.2.2.2.1.2.1 ≤ R.cells ∧ M.2.2.2.1.2.2 ≤ R.slots) (hM : zk_MO own cc (meth.name = "<init>") M) (hT : zk_TO own cc R M) (hret : zk_Ret p l e R s m args below meth c Q E V M P cc) (hthr : zk_Thr p l e R s m args below meth c Q E V M PX nL) (hxc : zk_Xc p l e R s m args below meth c Q E V M PX nL)
    (hC : ∀ pc n mc ms sp, C pc = some (n, mc, ms, sp) → zk_CO p l e R s m args below meth c E V nL pc n mc ms sp)
    {K : Nat → zk_L → List Value → zk_W S → Prop} (hK : ∀ pc L st w, K pc L st w → zk_G p l e R s m args below meth c Q E V nL pc L st w)
    {pc : Nat} {L : zk_L} {st : List Value} {w : zk_W S} (h : zk_step E V M C P PX pc L st w K) : zk_G p l e R s m args below meth c Q E V nL pc L st w := by
  obtain ⟨hx, hb, hml, hown, hts, hk, hsz⟩ := id X
  have hA : ∀ q, s.heap.size ≤ q → zk_A E q := fun q z => Nat.le_trans hsz z
  unfold zk_step at h
  split at h
  · rename_i X9 e1
    obtain ⟨rfl, h1, h2, h3⟩ := h
    intro H locs ls hz hr hS hl
    exact hthr pc X9 w H locs ls e1 h1 h2 h3 hz hr hS hl.1
  · split at h
    · rename_i e2
      intro H locs ls hz hr hS hl
      split at h
      · rename_i a r
        split at h
        · rename_i h4
          obtain ⟨idx, q1, q2, q3, q4⟩ := hT.1 pc e2
          have hcats := zk_cats_le r
          have hlen := of_decide_eq_true h4
          exact W.objInit hx hb hown (hts _ q2) (hts _ zk_w_oi1) (hts _ zk_w_oi2) (g := F0 m pc ls (.ref a :: r)) rfl (by rw [hml]; exact hl.1) rfl q1 q3 (by show 2 * 0 + _ + 12 ≤ _; omega) (hK _ _ _ _ h H locs ls hz hr hS hl)
        · exact h.elim
      · exact h.elim
    · split at h
      · rename_i e3
        obtain ⟨h0, h1, h2, h3, h4⟩ := h
        obtain ⟨rfl, q1, q2, q3, q4, q5⟩ := hT.2.1 pc e3
        intro H locs ls hz hr hS hl
        exact zk_row_lim hx hb (by rw [hml]; exact hl.1.symm) hts hown hk hr hS hA hz (Nat.le_trans h1 hR.1) (Nat.le_trans h2 hR.2) q4 q5 h0 q1 q2 q3 (fun H2 hz2 hr2 hS2 => hK _ _ _ _ h4 H2 locs ls hz2 (zk_R.wr hV h3 hr2) hS2 hl)
      · split at h
        · rename_i tag e8
          obtain ⟨idx, q1, q2, q3, q4⟩ := hT.2.2 pc tag e8
          intro H locs ls hz hr hS hl
          have hml9 : c.maxLocals = ls.size := hml.trans hl.1.symm
          unfold zk_math at h
          split at h
          · rename_i y x r
            obtain ⟨h1, h2, h3, h4⟩ := h
            have hcats := zk_cats_le r
            exact va_mmin hx hb hml9 hown (hts _ q2) (hts _ zk_w_ms) (hts _ zk_w_m0) (hts _ zk_w_mc) q3 (by omega) (Nat.le_trans h2 hR.1) (Nat.le_trans h3 hR.2) q1 (hK _ _ _ _ h4 H locs ls hz hr hS hl)
          · rename_i y x r
            obtain ⟨h1, h2, h3, h4⟩ := h
            have hcats := zk_cats_le r
            exact va_mmax hx hb hml9 hown (hts _ q2) (hts _ zk_w_xs) (hts _ zk_w_m0) (hts _ zk_w_xc) q3 (by omega) (Nat.le_trans h2 hR.1) (Nat.le_trans h3 hR.2) q1 (hK _ _ _ _ h4 H locs ls hz hr hS hl)
          · rename_i x r
            obtain ⟨h1, h2, h3, h4⟩ := h
            have hcats := zk_cats_le r
            exact va_mabs hx hb hml9 hown (hts _ q2) (hts _ zk_w_as) (hts _ zk_w_m0) (hts _ zk_w_ac) q3 (by omega) (Nat.le_trans h2 hR.1) (Nat.le_trans h3 hR.2) q1 (hK _ _ _ _ h4 H locs ls hz hr hS hl)
          · exact h.elim
        · split at h
          · rename_i n mc ms sp e4
            unfold zk_call at h
            split at h
            · rename_i h5
              obtain ⟨h1, h2, h3⟩ := h
              simp only [Bool.and_eq_true, decide_eq_true_eq] at h5
              intro H locs ls hz hr hS hl
              have hst : st = (st.take n).reverse.reverse ++ st.drop n := by rw [List.reverse_reverse, List.take_append_drop]
              rw [← hz] at h3
              have hco := hC pc n mc ms sp e4 (st.take n).reverse (st.drop n) H locs w.2.2.1 w.2.2.2 ls w.1 _ _ h3 (by simp; omega) h5.2 (Nat.le_trans h1 hR.1) (Nat.le_trans h2 hR.2) hr hS hl.1
              rw [← hst] at hco
              refine zk_callW hco hS (fun v σ H1 locs1 hp hr1 hS1 => hK _ _ _ _ hp H1 locs1 ls rfl hr1 hS1 hl) (fun X9 ce q σ H1 locs1 hp hr1 hS1 hce hv hcl => ?_)
              refine hxc pc X9 σ _ _ ce q (st.drop n) H1 locs1 ls h1 h2 ?_ hr1 hS1 hl.1 hce hv hcl
              split at hp
              · rename_i hp9 e9
                rw [e9]
                exact hK _ _ _ _ (hp q) H1 locs1 ls rfl hr1 hS1 hl
              · rename_i e9
                rw [e9]
                exact hp
            · exact h.elim
          · split at h
            · rename_i i e5
              exact zk_ins_ok hx hb hts hown hk hA hV hR hM hret hK e5 h
            · exact h.elim
theorem zk_run_ok (X : zk_Ctx own cc nL E p s m args c) (hV : zk_VK E V) (hR : M.2.2.2.1.2.1 ≤ R.cells ∧ M.2.2.2.1.2.2 ≤ R.slots) (hM : zk_MO own cc (meth.name = "<init>") M) (hT : zk_TO own cc R M) (hret : zk_Ret p l e R s m args below meth c Q E V M P cc) (hthr : zk_Thr p l e R s m args below meth c Q E V M PX nL) (hxc : zk_Xc p l e R s m args below meth c Q E V M PX nL)
    (hC : ∀ pc n mc ms sp, C pc = some (n, mc, ms, sp) → zk_CO p l e R s m args below meth c E V nL pc n mc ms sp) :
    ∀ (n pc : Nat) (L : zk_L) (st : List Value) (w : zk_W S), zk_run E V M C P PX (zk_G p l e R s m args below meth c Q E V nL) n pc L st w → zk_G p l e R s m args below meth c Q E V nL pc L st w
  | 0, _, _, _, _, h => h
  | n + 1, pc, L, st, w, h => by
    unfold zk_run at h
    split at h
    · exact h
    · exact zk_step_ok X hV hR hM hT hret hthr hxc hC (fun pc L st w z => zk_run_ok X hV hR hM hT hret hthr hxc hC n pc L st w z) h
theorem zk_go_ok (X : zk_Ctx own cc nL E p s m args c) (hV : zk_VK E V) (hR : M.2.2.2.1.2.1 ≤ R.cells ∧ M.2.2.2.1.2.2 ≤ R.slots) (hM : zk_MO own cc (meth.name = "<init>") M) (hT : zk_TO own cc R M) (hret : zk_Ret p l e R s m args below meth c Q E V M P cc) (hthr : zk_Thr p l e R s m args below meth c Q E V M PX nL) (hxc : zk_Xc p l e R s m args below meth c Q E V M PX nL)
    (hC : ∀ pc n mc ms sp, C pc = some (n, mc, ms, sp) → zk_CO p l e R s m args below meth c E V nL pc n mc ms sp) (n pc : Nat) (L : zk_L) (st : List Value) (w : zk_W S) (h : zk_go E V M C P PX (zk_G p l e R s m args below meth c Q E V nL) n pc L st w) : zk_G p l e R s m args below meth c Q E V nL pc L st w :=
  zk_step_ok X hV hR hM hT hret hthr hxc hC (fun pc L st w z => zk_run_ok X hV hR hM hT hret hthr hxc hC n pc L st w z) h
end ZT
