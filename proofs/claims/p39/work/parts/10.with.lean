/-! methods with handlers -/
def zk_CH {S : Type} (l : Launch) (E : zk_E) (V : zk_V S) (y : MethodName) (cc : ByteArray) (maxL : Nat) (ret : Option FieldType) (hh : List (Nat × Nat × Nat × Nat)) (rm : Room) (sp : zk_Sp S) : Prop :=
  ∀ (av : List Value) (σ : S) (sz : Nat) (P : zk_P S), sp av σ sz P (fun _ _ _ => False) → vx_Met l y (.codeWith y cc maxL ret hh :: zk_WS) rm (va_Pc av (zk_Pre E V σ sz)) (zk_Q E V P) (zk_QX E V (fun _ _ _ => False)) rm.cells rm.slots (zk_A E)
/-- where a handler takes which exception -/
def zk_HO (own : String) (hh : List (Nat × Nat × Nat × Nat)) (M : zk_M) : Prop := ∀ pc X hp, M.2.2.2.2.2.1 pc X = some hp → ∃ (pre : List ExceptionTableEntry) (x : ExceptionTableEntry) (suf : List ExceptionTableEntry), tableOf hh = pre ++ x :: suf ∧ (∀ z ∈ pre, z.catchType ≠ 0 ∧ ∃ nm : String, Cond.classLink own z.catchType nm ∈ zk_WS ∧ (X, nm) ∈ zk_ncs) ∧ covers x pc = true ∧ x.catchType ≠ 0 ∧ x.handlerPc = hp ∧ ∃ nm : String, Cond.classLink own x.catchType nm ∈ zk_WS ∧ Cond.castable X nm ∈ lw_tbl
def zk_VCH {S : Type} (E : zk_E) (V : zk_V S) (M : zk_M) (C : zk_Cl S) (nL : Nat) (sp : zk_Sp S) : Prop :=
  ∀ (av : List Value) (σ : S) (sz : Nat) (P : zk_P S), sp av σ sz P (fun _ _ _ => False) → (lg_sl av).length ≤ nL ∧ ∀ G : Nat → zk_L → List Value → zk_W S → Prop, (∀ n pc L st w, zk_go E V M C P (fun _ _ _ => False) G n pc L st w → G pc L st w) → G 0 (zk_ent av nL) [] (σ, sz, 0, 0)
section ZH
variable {S : Type} {l : Launch} {E : zk_E} {V : zk_V S} {M : zk_M} {C : zk_Cl S} {y : MethodName} {cc : ByteArray} {maxL : Nat} {ret : Option FieldType} {rm : Room} {sp : zk_Sp S} {hh : List (Nat × Nat × Nat × Nat)}
theorem zk_XcH_of {p : Program} {e : Env} {R : Room} {s : State} {m : MethodId} {args : Array Value} {below : List Frame} {meth : Method} {c : Code} {Q : State → Prop} {own : String} (X0 : zk_Ctx own cc maxL E p s m args c) (hout : c.exceptionTable.toList = tableOf hh) (hHO : zk_HO own hh M) : zk_Xc p l e R s m args below meth c Q E V M (fun _ _ _ => False) maxL := by
  obtain ⟨hx, hb, hml, hown, hts, hk, hsz⟩ := X0
  intro pc X σ k n ce q rest H locs ls hc hn hp hrr hS hls hce hv hcl
  split at hp
  · rename_i hp9 e9
    obtain ⟨pre, x, suf, h1, h2, h3, h4, h5, nm, h6, h7⟩ := hHO pc X hp9 e9
    subst h5
    refine vx_catch hown pre x suf (hout.trans h1) (fun z hz => ?_) h3 h4 (hts _ h6) (va_Nw.use rfl (hk.2.2.2.1 _ h7 rfl)) hce hv hcl hp
    obtain ⟨g1, nm2, g2, g3⟩ := h2 z hz
    exact Or.inr ⟨g1, nm2, hts _ g2, hk.2.2.2.2.2.1 _ g3⟩
  · exact hp.elim
theorem zk_methH (hy : plainName y.cls = true) (hret : M.2.2.2.1 = (ret, rm.cells, rm.slots)) (hHO : zk_HO y.cls hh M) (hV : zk_VK E V) (hM : zk_MO y.cls cc (y.name = "<init>") M) (hT : zk_TO y.cls cc rm M) (hnt : ∀ pc, M.2.2.2.2.1 pc = none)
    (hC : ∀ (p : Program) (e : Env) (s : State) (m : MethodId) (args : Array Value) (below : List Frame) (meth : Method) (c : Code), zk_Ctx y.cls cc maxL E p s m args c → ∀ pc n mc ms sp2, C pc = some (n, mc, ms, sp2) → zk_CO p l e rm s m args below meth c E V maxL pc n mc ms sp2) (hvc : zk_VCH E V M C maxL sp) : zk_CH l E V y cc maxL ret hh rm sp := by
  intro av σ sz P hsp
  obtain ⟨hlen, hG⟩ := hvc av σ sz P hsp
  refine vx_ofWH (cc := cc) (maxL := maxL) (ret := ret) (hh := hh) hy rfl ?_
  intro p e s m args below meth c s₁ B hml hv
  obtain ⟨rfl, hsz, hr, hk, hE⟩ := hv
  have hx := B.exec
  have hb := B.bytes
  have hrt := B.returns
  have hts0 := atoms_spec (ws := .codeWith y cc maxL ret hh :: zk_WS) B.pre
  have hout : c.exceptionTable.toList = tableOf hh := vx_table (x := y) B (hts0 _ List.mem_cons_self)
  have hts : ∀ w ∈ zk_WS, w.before av.toArray s = true := fun w hw => hts0 w (List.mem_cons_of_mem _ hw)
  have hown : s.vm.findClass y.cls = some m.cls := findClass_of_methodNamed B.named
  have hlocks := B.notSynchronized
  have hname : meth.name = y.name := (name_of_methodNamed B.named B.method).1
  have X0 : zk_Ctx y.cls cc maxL E p s m av.toArray c := ⟨hx, hb, hml, hown, hts, hk, hE⟩
  have e1 : M.2.2.2.1.1 = ret := by rw [hret]
  have e2 : M.2.2.2.1.2.1 = rm.cells := by rw [hret]
  have e3 : M.2.2.2.1.2.2 = rm.slots := by rw [hret]
  have hR : M.2.2.2.1.2.1 ≤ rm.cells ∧ M.2.2.2.1.2.2 ≤ rm.slots := ⟨Nat.le_of_eq e2, Nat.le_of_eq e3⟩
  have hret2 := zk_Ret_of (l := l) (e := e) (R := rm) (s := s) (m := m) (args := av.toArray) (below := below) (V := V) (E := E) (M := M) (P := P) (XC := zk_QX E V (fun _ _ _ => False)) hx hb (hrt.trans e1.symm) hlocks
  have hthr2 : zk_Thr p l e rm s m av.toArray below meth c (vx_MQ below (zk_Q E V P) (zk_QX E V (fun _ _ _ => False)) av.toArray s M.2.2.2.1.2.1 M.2.2.2.1.2.2 (zk_A E)) E V M (fun _ _ _ => False) maxL := by
    intro pc X w H locs ls hX
    rw [hnt pc] at hX
    cases hX
  have hxc2 := zk_XcH_of (l := l) (V := V) (M := M) (e := e) (R := rm) (below := below) (meth := meth) (Q := vx_MQ below (zk_Q E V P) (zk_QX E V (fun _ _ _ => False)) av.toArray s M.2.2.2.1.2.1 M.2.2.2.1.2.2 (zk_A E)) X0 hout hHO
  have key := hG (zk_G p l e rm s m av.toArray below meth c (vx_MQ below (zk_Q E V P) (zk_QX E V (fun _ _ _ => False)) av.toArray s M.2.2.2.1.2.1 M.2.2.2.1.2.2 (zk_A E)) E V maxL)
    (fun n pc L st w h => zk_go_ok X0 hV hR (by rw [hname]; exact hM) hT hret2 hthr2 hxc2 (hC p e s m av.toArray below meth c X0) n pc L st w h)
  rw [e2, e3] at key
  rw [lg_entry_eq]
  exact key s.heap [] _ hsz hr va_S.rf (zk_lv_ent av hlen)
end ZH
section ZCH
variable {S : Type} {p : Program} {l : Launch} {e : Env} {R : Room} {s : State} {m : MethodId} {args : Array Value} {below : List Frame} {meth : Method} {c : Code}
variable {E : zk_E} {V : zk_V S} {cc : ByteArray} {own : String} {nL : Nat}
/-- a static call of a method with handlers that lets nothing out -/
theorem zk_coSW (X : zk_Ctx own cc nL E p s m args c) {y : MethodName} {bytes : ByteArray} {maxL n pc idx : Nat} {ret : Option FieldType} {hh : List (Nat × Nat × Nat × Nat)} {rm : Room} {sp : zk_Sp S} (hM : zk_CH l E V y bytes maxL ret hh rm sp) (hpx : ∀ av σ sz P PX, sp av σ sz P PX → sp av σ sz P (fun _ _ _ => False)) (hw : ∀ w ∈ [Cond.methodLink own idx y, .static y, .initialized y.cls, .codeWith y bytes maxL ret hh], w ∈ zk_WS)
    (hd : decode cc pc = .ok (.invokestatic idx, 3)) (hy : y.cls ≠ "java/lang/invoke/MethodHandle" ∧ y.cls ≠ "java/lang/invoke/VarHandle" ∧ (parseMethodDescriptor y.desc).map (fun d => d.parameters.length) = some n) (hR : rm.frames + 1 ≤ R.frames ∧ 8 + (maxL + 11) + rm.locals ≤ R.locals) : zk_CO p l e R s m args below meth c E V nL pc n rm.cells rm.slots sp := by
  obtain ⟨hx, hb, hml, hown, hts, hk, hsz⟩ := X
  intro As rest H locs cells slots ls σ P PX hsp hn hrest hc hs hr hS hls
  have hcode : Cond.codeWith y bytes maxL ret hh ∈ zk_WS := hw _ (by simp)
  have cw : vx_CSW R s args own idx y bytes maxL ret hh (.codeWith y bytes maxL ret hh :: zk_WS) rm rm.cells rm.slots n :=
    vx_cwSW n hts (zk_good (fun w h => by
      simp only [va_wsS, List.cons_append, List.nil_append, List.mem_cons] at h
      rcases h with rfl | rfl | rfl | rfl | h
      · exact hw _ (by simp)
      · exact hw _ (by simp)
      · exact hw _ (by simp)
      · exact hcode
      · exact h)) rfl rfl rfl hy hR
  have key := vx_runSX (As := As) (rest := rest) (cells := cells) (slots := slots) (g := F0 m pc ls (As.reverse ++ rest)) (e := e) (below := below) (meth := meth) (H := H) (locs := locs) ⟨hx, hb, hml, hown, hts⟩ (hM As σ H.size P (hpx _ _ _ _ _ hsp)) cw ⟨zk_Pre_blind, zk_pre_at hk hsz hr hS⟩ rfl hn hls rfl (lv_room (by have := zk_c8_le hrest; omega)) hd ⟨hc, hs⟩
  intro T hT X
  rcases key T hT X with h | ⟨q, st₀, t, T', L, X9, ce, h0, X', hL, e1, e2, ⟨⟨σ2, hp, hb⟩, hF⟩, hce, hcv, hcl, st⟩
  · exact Or.inl h
  · exact hp.elim
end ZCH
