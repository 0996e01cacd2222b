/-! the contract of a method out of its pure claim -/
def zk_ents : List Value → zk_L
  | [] => []
  | v :: vs => if v.category = 2 then some v :: none :: zk_ents vs else some v :: zk_ents vs
def zk_ent (av : List Value) (nL : Nat) : zk_L := zk_ents av ++ List.replicate (nL - (zk_ents av).length) none
theorem zk_ents_len : ∀ av : List Value, (zk_ents av).length = (lg_sl av).length
  | [] => rfl
  | v :: vs => by
    have ih := zk_ents_len vs
    unfold zk_ents
    show _ = ((if v.category = 2 then [Slot.val v, Slot.second] else [Slot.val v]) ++ lg_sl vs).length
    split <;> simp [ih]
theorem zk_lg_app_none : ∀ (n i : Nat) (v : Value), ¬ zk_lg (List.replicate n none) i = some v
  | 0, _, _, h => by cases h
  | n + 1, 0, _, h => by cases h
  | n + 1, i + 1, v, h => zk_lg_app_none n i v h
theorem zk_ents_mem : ∀ (av : List Value) (n k i : Nat) (v : Value), zk_lg (zk_ents av ++ List.replicate n none) i = some v → (k + i, v) ∈ lv_args k av
  | [], n, k, i, v, h => absurd h (zk_lg_app_none n i v)
  | u :: vs, n, k, i, v, h => by
    unfold zk_ents at h
    unfold lv_args
    split at h
    · rename_i hc
      rw [if_pos hc]
      match i, h with
      | 0, h => simp only [List.cons_append, zk_lg, Option.some.injEq] at h; subst h; exact List.mem_cons_self
      | 1, h => cases h
      | i + 2, h =>
        have := zk_ents_mem vs n (k + 2) i v h
        rw [show k + (i + 2) = k + 2 + i by omega]
        exact List.mem_cons_of_mem _ this
    · rename_i hc
      rw [if_neg hc]
      match i, h with
      | 0, h => simp only [List.cons_append, zk_lg, Option.some.injEq] at h; subst h; exact List.mem_cons_self
      | i + 1, h =>
        have := zk_ents_mem vs n (k + 1) i v h
        rw [show k + (i + 1) = k + 1 + i by omega]
        exact List.mem_cons_of_mem _ this
theorem zk_lv_ent (av : List Value) {nL : Nat} (h : (lg_sl av).length ≤ nL) : zk_lv ((lg_sl av ++ List.replicate (nL - (lg_sl av).length) Slot.unset).toArray) nL (zk_ent av nL) := by
  obtain ⟨h1, h2, h3⟩ := lv_entry av h
  refine ⟨h1, ?_, h2, fun i v hi => ?_⟩
  · unfold zk_ent
    rw [List.length_append, List.length_replicate, zk_ents_len]
    omega
  · have := zk_ents_mem av _ 0 i v hi
    rw [Nat.zero_add] at this
    exact h3 _ this
/-- a throw of a new exception with a text -/
def zk_TH (own : String) (cc : ByteArray) (R : Room) (pc : Nat) (X : String) : Prop := ∃ (ik is ic : Nat) (text : String) (names : List String),
  Cond.classLink own ik X ∈ zk_WS ∧ Cond.initialized X ∈ zk_WS ∧ (own, is, text) ∈ zk_strs ∧ (∀ w ∈ vx_atS own ic X names, (w ∈ lw_tbl ∧ (goodWord w || (zk_nx w && w.onTables)) = true) ∧ vx_ot w = true) ∧ Bundle.fit X = true ∧ (∀ n ∈ names, Bundle.fit n = true) ∧ names.length + 3 < R.frames ∧ 13 * (names.length + 1) + 43 ≤ R.locals ∧
  decode cc pc = .ok (.new ik, 3) ∧ decode cc (pc + 3) = .ok (.dup, 1) ∧ ((decode cc (pc + 4) = .ok (.ldc is, 2) ∧ decode cc (pc + 6) = .ok (.invokespecial ic, 3) ∧ decode cc (pc + 9) = .ok (.athrow, 1)) ∨ (decode cc (pc + 4) = .ok (.ldc_w is, 3) ∧ decode cc (pc + 7) = .ok (.invokespecial ic, 3) ∧ decode cc (pc + 10) = .ok (.athrow, 1)))
/-- the pure claim of a method -/
def zk_VC {S : Type} (E : zk_E) (V : zk_V S) (M : zk_M) (C : zk_Cl S) (nL : Nat) (sp : zk_Sp S) : Prop :=
  ∀ (av : List Value) (σ : S) (sz : Nat) (P : zk_P S) (PX : zk_X S), sp av σ sz P PX → (lg_sl av).length ≤ nL ∧ ∀ G : Nat → zk_L → List Value → zk_W S → Prop, (∀ n pc L st w, zk_go E V M C P PX G n pc L st w → G pc L st w) → G 0 (zk_ent av nL) [] (σ, sz, 0, 0)
section ZM
variable {S : Type} {l : Launch} {E : zk_E} {V : zk_V S} {M : zk_M} {C : zk_Cl S} {y : MethodName} {cc : ByteArray} {maxL : Nat} {ret : Option FieldType} {rm : Room} {sp : zk_Sp S}
theorem zk_Ret_of {p : Program} {e : Env} {R : Room} {s : State} {m : MethodId} {args : Array Value} {below : List Frame} {meth : Method} {c : Code} {P : zk_P S} {XC : String → State → State → Prop} (hx : p.tables.exec = Jvm.exec) (hb : c.code = cc) (hr : meth.sig.returnType = M.2.2.2.1.1) (hlocks : meth.locks = false) : zk_Ret p l e R s m args below meth c (vx_MQ below (zk_Q E V P) XC args s M.2.2.2.1.2.1 M.2.2.2.1.2.2 (zk_A E)) E V M P cc := by
  intro v w pc st H locs ls hP hc hs hz hrr hS hd
  refine W.widen hc hs (vx_ret ?_)
  have fin : ∀ t : State, t.heap = H → s.WarmedH t.vm → zk_Q E V P args s (.returned v) t := fun t ht hW => ⟨⟨v, w.1, rfl, by rw [ht, hz]; exact hP, by rw [ht]; exact hrr⟩, hS.F ht⟩
  rcases hd with ⟨x, rfl, rfl, hd, hn⟩ | ⟨x, rfl, rfl, hd, h9⟩ | ⟨x, rfl, rfl, hd, h9⟩ | ⟨x, rfl, rfl, hd, h8, rt, h9, h10⟩ | ⟨rfl, rfl, hd, h9⟩
  · unfold zk_nok at hn
    split at hn
    · rename_i ty h9
      exact W.zret hx hb (hr.trans h9) hn fin hS.2.2 hd hlocks
    · exact hn.elim
  · exact W.lret hx hb (hr.trans h9) fin hS.2.2 hd hlocks
  · exact W.dret hx hb (hr.trans h9) fin hS.2.2 hd hlocks
  · exact W.aret hx hb (hr.trans h9) h10 (zk_isr_cases h8) fin hS.2.2 hd hlocks
  · exact W.vret hx hb (hr.trans h9) fin hS.2.2 hd hlocks
theorem zk_hat {own : String} {ic : Nat} {X : String} {names : List String} {s : State} {args : Array Value} (hts : ∀ w ∈ zk_WS, w.before args s = true) (hk : zk_K E s) (h : ∀ w ∈ vx_atS own ic X names, (w ∈ lw_tbl ∧ (goodWord w || (zk_nx w && w.onTables)) = true) ∧ vx_ot w = true) : ∀ w ∈ vx_atS own ic X names, w.before args s = true := by
  intro w hw
  obtain ⟨⟨h1, h2⟩, -⟩ := h w hw
  simp only [Bool.or_eq_true, Bool.and_eq_true] at h2
  rcases h2 with h2 | ⟨h2, h3⟩
  · exact hts w (List.mem_filter.mpr ⟨h1, h2⟩)
  · exact va_Nw.use h3 (hk.2.2.2.1 w h1 h2)
theorem zk_Thr_of (hl : l.stackTraces = false) {p : Program} {e : Env} {R : Room} {s : State} {m : MethodId} {args : Array Value} {below : List Frame} {meth : Method} {c : Code} {P : zk_P S} {PX : zk_X S} {own : String} (X0 : zk_Ctx own cc maxL E p s m args c) (hR : M.2.2.2.1.2.1 ≤ R.cells ∧ M.2.2.2.1.2.2 ≤ R.slots) (hlocks : meth.locks = false) (hout : ∀ x ∈ c.exceptionTable.toList, False) (hTh : ∀ pc X, M.2.2.2.2.1 pc = some X → zk_TH own cc R pc X) : zk_Thr p l e R s m args below meth c (vx_MQ below (zk_Q E V P) (zk_QX E V PX) args s M.2.2.2.1.2.1 M.2.2.2.1.2.2 (zk_A E)) E V M PX maxL := by
  obtain ⟨hx, hb, hml, hown, hts, hk, hsz⟩ := X0
  intro pc X w H locs ls hX hPX hc hs hz hrr hS hls
  obtain ⟨ik, is, ic, text, names, h1, h2, h3, h4, h5, h6, h7, h8, d0, d3, hd⟩ := hTh pc X hX
  obtain ⟨sa, hsa⟩ := hk.2.2.2.2.1 _ h3
  have hgood : ∀ w ∈ Cond.classLink own ik X :: Cond.initialized X :: vx_atS own ic X names, vx_ot w = true := by
    intro w hw
    rcases List.mem_cons.mp hw with rfl | hw
    · rfl
    · rcases List.mem_cons.mp hw with rfl | hw
      · rfl
      · exact (h4 w hw).2
  have fin : ∀ t : State, s.vm.Alike t.vm → H.size ≤ t.heap.size → (∀ q : Nat, q < H.size → t.heap[q]? = H[q]?) → zk_QX E V PX X s t := by
    intro t hv hsz2 hq
    refine ⟨⟨w.1, hPX _ (by omega), fun a e2 ha => ?_⟩, Nat.le_trans hS.1 hsz2, fun q g1 g2 => (hq q (Nat.lt_of_lt_of_le g1 hS.1)).trans (hS.2.1 q g1 g2)⟩
    have g2 := hrr a e2 ha
    exact g2.kept (hq a g2.lt)
  rcases hd with ⟨d4, d6, d9⟩ | ⟨d4, d7, d10⟩
  · exact vx_throwS hx hb hl (rest := []) hown h5 h6 (hts _ h1) (hts _ h2) hsa (zk_hat hts hk h4) hgood hk.2.1 hk.2.2.1 hS (hls.trans hml.symm) d0 d3 d4 d6 d9 (fun x hx => (hout x hx).elim) h7 (by simpa using h8) (Nat.le_trans hc hR.1) (Nat.le_trans hs hR.2) hlocks fin hS.2.2 hc hs
  · exact vx_throwSW hx hb hl (rest := []) hown h5 h6 (hts _ h1) (hts _ h2) hsa (zk_hat hts hk h4) hgood hk.2.1 hk.2.2.1 hS (hls.trans hml.symm) d0 d3 d4 d7 d10 (fun x hx => (hout x hx).elim) h7 (by simpa using h8) (Nat.le_trans hc hR.1) (Nat.le_trans hs hR.2) hlocks fin hS.2.2 hc hs
theorem zk_Xc_of {p : Program} {e : Env} {R : Room} {s : State} {m : MethodId} {args : Array Value} {below : List Frame} {meth : Method} {c : Code} {P : zk_P S} {PX : zk_X S} (hlocks : meth.locks = false) (hout : ∀ x ∈ c.exceptionTable.toList, False) (hnh : ∀ pc X, M.2.2.2.2.2.1 pc X = none) : zk_Xc p l e R s m args below meth c (vx_MQ below (zk_Q E V P) (zk_QX E V PX) args s M.2.2.2.1.2.1 M.2.2.2.1.2.2 (zk_A E)) E V M PX maxL := by
  intro pc X σ k n ce q rest H locs ls hk hn hp hrr hS hls hce hv hcl
  rw [hnh] at hp
  refine vx_out (fun x hx => (hout x hx).elim) hlocks hce hv hcl (fun t ht hW => ?_) hS.2.2 hk hn
  exact ⟨⟨σ, by rw [ht]; exact hp, by rw [ht]; exact hrr⟩, hS.F ht⟩
theorem zk_meth (hl : l.stackTraces = false) (hy : plainName y.cls = true) (hret : M.2.2.2.1 = (ret, rm.cells, rm.slots)) (hnh : ∀ pc X, M.2.2.2.2.2.1 pc X = none) (hV : zk_VK E V) (hM : zk_MO y.cls cc (y.name = "<init>") M) (hT : zk_TO y.cls cc rm M) (hTh : ∀ pc X, M.2.2.2.2.1 pc = some X → zk_TH y.cls cc rm pc X)
    (hC : ∀ (p : Program) (e : Env) (s : State) (m : MethodId) (args : Array Value) (below : List Frame) (meth : Method) (c : Code), zk_Ctx y.cls cc maxL E p s m args c → ∀ pc n mc ms sp2, C pc = some (n, mc, ms, sp2) → zk_CO p l e rm s m args below meth c E V maxL pc n mc ms sp2) (hvc : zk_VC E V M C maxL sp) : zk_C l E V y cc maxL ret rm sp := by
  intro av σ sz P PX hsp
  obtain ⟨hlen, hG⟩ := hvc av σ sz P PX hsp
  refine vx_ofW (cc := cc) (maxL := maxL) (ret := ret) hy rfl ?_
  intro p e s m args below meth c s₁ B hml hout hv
  obtain ⟨rfl, hsz, hr, hk, hE⟩ := hv
  have hx := B.exec
  have hb := B.bytes
  have hrt := B.returns
  have hts0 := atoms_spec (ws := .code y cc maxL ret :: zk_WS) B.pre
  have hts : ∀ w ∈ zk_WS, w.before av.toArray s = true := fun w hw => hts0 w (List.mem_cons_of_mem _ hw)
  have hown : s.vm.findClass y.cls = some m.cls := findClass_of_methodNamed B.named
  have hlocks := B.notSynchronized
  have hname : meth.name = y.name := (name_of_methodNamed B.named B.method).1
  have X0 : zk_Ctx y.cls cc maxL E p s m av.toArray c := ⟨hx, hb, hml, hown, hts, hk, hE⟩
  have e1 : M.2.2.2.1.1 = ret := by rw [hret]
  have e2 : M.2.2.2.1.2.1 = rm.cells := by rw [hret]
  have e3 : M.2.2.2.1.2.2 = rm.slots := by rw [hret]
  have hR : M.2.2.2.1.2.1 ≤ rm.cells ∧ M.2.2.2.1.2.2 ≤ rm.slots := ⟨Nat.le_of_eq e2, Nat.le_of_eq e3⟩
  have hret2 := zk_Ret_of (l := l) (e := e) (R := rm) (s := s) (m := m) (args := av.toArray) (below := below) (V := V) (E := E) (M := M) (P := P) (XC := zk_QX E V PX) hx hb (hrt.trans e1.symm) hlocks
  have hthr2 := zk_Thr_of (V := V) (M := M) (e := e) (below := below) (P := P) (PX := PX) hl X0 hR hlocks hout hTh
  have hxc2 := zk_Xc_of (l := l) (E := E) (V := V) (M := M) (p := p) (e := e) (R := rm) (s := s) (m := m) (args := av.toArray) (below := below) (P := P) (PX := PX) (maxL := maxL) hlocks hout hnh
  have key := hG (zk_G p l e rm s m av.toArray below meth c (vx_MQ below (zk_Q E V P) (zk_QX E V PX) av.toArray s M.2.2.2.1.2.1 M.2.2.2.1.2.2 (zk_A E)) E V maxL)
    (fun n pc L st w h => zk_go_ok X0 hV hR (by rw [hname]; exact hM) hT hret2 hthr2 hxc2 (hC p e s m av.toArray below meth c X0) n pc L st w h)
  rw [e2, e3] at key
  rw [lg_entry_eq]
  exact key s.heap [] _ hsz hr va_S.rf (zk_lv_ent av hlen)
end ZM
