/-! a method's contract out of a pure claim about its code -/
def zk_Q {S : Type} (E : zk_E) (V : zk_V S) (P : zk_P S) : Array Value → State → Outcome → State → Prop := fun _ st o t => (∃ (v : Option Value) (σ : S), o = .returned v ∧ P v σ t.heap.size ∧ zk_R E (V.1 σ) t.heap) ∧ va_F (zk_A E) st t
def zk_QX {S : Type} (E : zk_E) (V : zk_V S) (PX : zk_X S) : String → State → State → Prop := fun X st t => (∃ σ : S, PX X σ t.heap.size ∧ zk_R E (V.1 σ) t.heap) ∧ va_F (zk_A E) st t
def zk_Pre {S : Type} (E : zk_E) (V : zk_V S) (σ : S) (sz : Nat) : State → Prop := fun U => U.heap.size = sz ∧ zk_R E (V.1 σ) U.heap ∧ zk_K E U ∧ E.1 ≤ U.heap.size
/-- the contract of a method with a pure spec -/
def zk_C {S : Type} (l : Launch) (E : zk_E) (V : zk_V S) (y : MethodName) (cc : ByteArray) (maxL : Nat) (ret : Option FieldType) (rm : Room) (sp : zk_Sp S) : Prop :=
  ∀ (av : List Value) (σ : S) (sz : Nat) (P : zk_P S) (PX : zk_X S), sp av σ sz P PX → vx_Met l y (.code y cc maxL ret :: zk_WS) rm (va_Pc av (zk_Pre E V σ sz)) (zk_Q E V P) (zk_QX E V PX) rm.cells rm.slots (zk_A E)
theorem zk_Pre_blind {S : Type} {E : zk_E} {V : zk_V S} {av : List Value} {σ : S} {sz : Nat} : FrameBlind (va_Pc av (zk_Pre E V σ sz)) := by
  intro a U g mk h
  obtain ⟨h1, h2, h3, h4, h5⟩ := h
  exact ⟨h1, h2, h3, zk_K.move (s := U) (U := U.calling g mk a) (State.WarmedH.refl U) (fun _ _ _ => rfl) h4, h5⟩
def zk_Ctx (own : String) (cc : ByteArray) (nL : Nat) (E : zk_E) (p : Program) (s : State) (m : MethodId) (args : Array Value) (c : Code) : Prop :=
  p.tables.exec = Jvm.exec ∧ c.code = cc ∧ c.maxLocals = nL ∧ s.vm.findClass own = some m.cls ∧ (∀ w ∈ zk_WS, w.before args s = true) ∧ zk_K E s ∧ E.1 ≤ s.heap.size
/-- a call at pc does what the spec says -/
def zk_CO {S : Type} (p : Program) (l : Launch) (e : Env) (R : Room) (s : State) (m : MethodId) (args : Array Value) (below : List Frame) (meth : Method) (c : Code) (E : zk_E) (V : zk_V S) (nL pc n mc ms : Nat) (sp : zk_Sp S) : Prop :=
  ∀ (As rest : List Value) (H : Heap) (locs : List Loc) (cells slots : Nat) (ls : Array Slot) (σ : S) (P : zk_P S) (PX : zk_X S), sp As σ H.size P PX → As.length = n → zk_c8 rest = true → cells + mc ≤ R.cells → slots + ms ≤ R.slots → zk_R E (V.1 σ) H → va_S (zk_A E) s.heap H locs → ls.size = nL →
    vx_Run p l e R s m args below meth c H locs cells slots mc ms (F0 m pc ls (As.reverse ++ rest)) rest (zk_Q E V P As.toArray) (zk_QX E V PX) (zk_A E)
theorem zk_cats_le (rest : List Value) : (rest.map fun v => v.category).sum ≤ 2 * rest.length := by
  induction rest with
  | nil => exact Nat.le_refl _
  | cons v l ih =>
    simp only [List.map_cons, List.sum_cons, List.length_cons]
    rcases lv_cat v with h | h <;> omega
theorem zk_one_le : ∀ (rest : List Value), rest.all zk_one = true → (rest.map fun v => v.category).sum ≤ rest.length
  | [], _ => Nat.le_refl _
  | v :: l, h2 => by
    rw [List.all_cons, Bool.and_eq_true] at h2
    have := zk_one_le l h2.2
    have h3 : v.category = 1 := by
      cases v <;> first | rfl | exact absurd h2.1 (by simp [zk_one])
    simp only [List.map_cons, List.sum_cons, List.length_cons]
    omega
theorem zk_c8_le {rest : List Value} (h : zk_c8 rest = true) : (rest.map fun v => v.category).sum ≤ 8 := by
  unfold zk_c8 at h
  rw [Bool.or_eq_true, Bool.and_eq_true] at h
  rcases h with h | ⟨h1, h2⟩
  · have := zk_cats_le rest
    have := of_decide_eq_true h
    omega
  · have h1 := of_decide_eq_true h1
    have := zk_one_le rest h2
    omega
theorem zk_good {ws : List Cond} (h : ∀ w ∈ ws, w ∈ zk_WS) : GoodIn zk_WS ws := fun w hw => ⟨h w hw, good_of_word (zk_WS_good (h w hw))⟩
/-- a receiver of a kind -/
def zk_is (o : Option va_E) (k : Nat → Bool) : Prop := match o with
  | some (.inr (ci, _)) => k ci = true
  | _ => False
def zk_rv {S : Type} (V : zk_V S) (k : Nat → Bool) (sp : zk_Sp S) : zk_Sp S := fun av σ sz P PX => (match av with
  | .ref b :: _ => zk_is (V.1 σ b) k
  | _ => False) ∧ sp av σ sz P PX
theorem zk_Z_up {C n d : String} {v : Value} {A B : Nat → Prop} {U : State} {H : Heap} (hA : ∀ {q : Nat}, ¬ A q → ¬ B q) (h : va_Z C n d v A U H) : va_Z C n d v B U H := by
  obtain ⟨cf, kf, fi, f, a, cl, g1, g2, g3, g4, g5, g6, g7, g8⟩ := h
  exact ⟨cf, kf, fi, f, a, cl, g1, g2, g3, g4, g5, g6, g7, hA g8⟩
theorem zk_Zq_up {C n d : String} {A B : Nat → Prop} {U : State} {H : Heap} (hA : ∀ {q : Nat}, ¬ A q → ¬ B q) (h : va_Zq C n d A U H) : va_Zq C n d B U H := by
  rcases h with h | ⟨t, h⟩
  · exact Or.inl (zk_Z_up @hA h)
  · exact Or.inr ⟨t, zk_Z_up @hA h⟩
theorem zk_L_up {C n d : String} {A B : Nat → Prop} {U : State} {H : Heap} (hA : ∀ {q : Nat}, ¬ A q → ¬ B q) (h : vx_L C n d A U H) : vx_L C n d B U H := by
  obtain ⟨c, k, i, f, a, cell, h1, h2, h3, h4, h5, h6, h7, h8, h9, h10⟩ := h
  exact ⟨c, k, i, f, a, cell, h1, h2, h3, h4, h5, h6, h7, h8, h9, hA h10⟩
theorem vx_Met_mono {l : Launch} {y : MethodName} {ws : List Cond} {rm : Room} {Pc Pc2 : Array Value → State → Prop} {Qc Qc2 : Array Value → State → Outcome → State → Prop} {XC XC2 : String → State → State → Prop} {mc ms : Nat} {free free2 : Addr → Prop} (hP : ∀ a s, Pc2 a s → Pc a s) (hQ : ∀ a s o t, Qc a s o t → Qc2 a s o t) (hX : ∀ X s t, XC X s t → XC2 X s t) (hf : ∀ q, free q → free2 q) (h : vx_Met l y ws rm Pc Qc XC mc ms free) : vx_Met l y ws rm Pc2 Qc2 XC2 mc ms free2 := by
  have hq : ∀ a s o t, vx_Q Qc XC mc ms free a s o t → vx_Q Qc2 XC2 mc ms free2 a s o t := by
    intro a s o t z
    rcases z with ⟨z1, L, z2, z3⟩ | ⟨q, z1, E9, ce, L, z2, z3, z4, z5, z6, z7, z8⟩
    · exact Or.inl ⟨hQ _ _ _ _ z1, L, z2, fun q w => hf _ (z3 q w)⟩
    · exact Or.inr ⟨q, z1, E9, ce, L, hX _ _ _ z2, z3, z4, z5, z6, z7, fun q w => hf _ (z8 q w)⟩
  intro p e ha hc hk s m args below hm hh hp ht
  obtain ⟨k, o, h1, h2, h3, h4⟩ := h p e ha hc hk s m args below hm hh (hP _ _ hp) ht
  exact ⟨k, o, h1, h2, h3, hq _ _ _ _ h4⟩
/-- what holds of a smaller part of the heap -/
theorem zk_K.up {E : zk_E} {U : State} {n : Nat} (hn : E.1 ≤ n) (h : zk_K E U) : zk_K (n, E.2) U := by
  have hA : ∀ {q : Nat}, ¬ zk_A E q → ¬ zk_A (n, E.2) q := fun {q} w z => w (Nat.le_trans hn z)
  obtain ⟨h1, ⟨h2, h2b⟩, ⟨h3, h3b⟩, h4, h5, h6, t, cell, ⟨cf, kf, fi, f, a, cl, g1, g2, g3, g4, g5, g6, g7, g8⟩, h8, h9, h10⟩ := h
  refine ⟨h1, ⟨?_, ?_⟩, ⟨?_, ?_⟩, h4, h5, h6, t, cell, ⟨cf, kf, fi, f, a, cl, g1, g2, g3, g4, g5, g6, g7, hA g8⟩, h8, hA h9, h10⟩
  · exact zk_Zq_up @hA h2
  · exact zk_L_up @hA h2b
  · exact zk_Zq_up @hA h3
  · exact zk_L_up @hA h3b
/-- a contract over a smaller part of the heap is one over the larger -/
theorem zk_C.up {S : Type} {l : Launch} {E : zk_E} {V : zk_V S} {y : MethodName} {cc : ByteArray} {maxL : Nat} {ret : Option FieldType} {rm : Room} {sp : zk_Sp S} {n : Nat} (hn : E.1 ≤ n) (hb : E.2.2 99 ≤ E.1) (h : zk_C l (n, E.2) V y cc maxL ret rm sp) : zk_C l E V y cc maxL ret rm (fun av σ sz P PX => n ≤ sz ∧ sp av σ sz P PX) := by
  intro av σ sz P PX hsp
  have hA : ∀ {q : Nat}, zk_A (n, E.2) q → zk_A E q := fun {q} z => Nat.le_trans hn z
  have h2 := h av σ sz P PX hsp.2
  refine vx_Met_mono ?_ ?_ ?_ (fun q => hA) h2
  · intro a U hU
    obtain ⟨g1, g2, g3, g4, g5⟩ := hU
    exact ⟨g1, g2, g3.lift hn, zk_K.up hn g4, by show n ≤ _; rw [g2]; exact hsp.1⟩
  · intro a s o t q
    exact ⟨by obtain ⟨⟨v, σ2, e1, e2, e3⟩, -⟩ := q; exact ⟨v, σ2, e1, e2, e3.drop hb⟩, q.2.1, fun z z1 z2 => q.2.2 z z1 (fun w => z2 (hA w))⟩
  · intro X s t q
    exact ⟨by obtain ⟨⟨σ2, e2, e3⟩, -⟩ := q; exact ⟨σ2, e2, e3.drop hb⟩, q.2.1, fun z z1 z2 => q.2.2 z z1 (fun w => z2 (hA w))⟩
section ZC
variable {S : Type} {p : Program} {l : Launch} {e : Env} {R : Room} {s : State} {m : MethodId} {args : Array Value} {below : List Frame} {meth : Method} {c : Code}
variable {E : zk_E} {V : zk_V S} {cc : ByteArray} {own : String} {nL : Nat}
theorem zk_pre_at {av : List Value} {σ : S} {H : Heap} {locs : List Loc} (hk : zk_K E s) (hsz : E.1 ≤ s.heap.size) (hr : zk_R E (V.1 σ) H) (hS : va_S (zk_A E) s.heap H locs) : ∀ U : State, U.heap = H → s.WarmedH U.vm → va_Pc av (zk_Pre E V σ H.size) av.toArray U := by
  intro U hU hW
  refine ⟨rfl, by rw [hU], by rw [hU]; exact hr, zk_K.move hW (fun q h1 h2 => by rw [hU]; exact hS.2.1 q h1 h2) hk, by rw [hU]; exact Nat.le_trans hsz hS.1⟩
theorem zk_coS (X : zk_Ctx own cc nL E p s m args c) {y : MethodName} {bytes : ByteArray} {maxL n pc idx : Nat} {ret : Option FieldType} {rm : Room} {sp : zk_Sp S} (hM : zk_C l E V y bytes maxL ret rm sp) (hw : ∀ w ∈ [Cond.methodLink own idx y, .static y, .initialized y.cls, .code y bytes maxL ret], w ∈ zk_WS)
    (hd : decode cc pc = .ok (.invokestatic idx, 3)) (hy : y.cls ≠ "java/lang/invoke/MethodHandle" ∧ y.cls ≠ "java/lang/invoke/VarHandle" ∧ (parseMethodDescriptor y.desc).map (fun d => d.parameters.length) = some n) (hR : rm.frames + 1 ≤ R.frames ∧ 8 + (maxL + 11) + rm.locals ≤ R.locals) : zk_CO p l e R s m args below meth c E V nL pc n rm.cells rm.slots sp := by
  obtain ⟨hx, hb, hml, hown, hts, hk, hsz⟩ := X
  intro As rest H locs cells slots ls σ P PX hsp hn hrest hc hs hr hS hls
  have hcode : Cond.code y bytes maxL ret ∈ zk_WS := hw _ (by simp)
  have cw : CallB R s args own idx y bytes maxL ret (.code y bytes maxL ret :: zk_WS) rm rm.cells rm.slots n :=
    callB_of n hts (zk_good (fun w h => (List.mem_cons.mp h).elim (fun z => z ▸ hcode) id)) rfl rfl rfl (hts _ (hw _ (by simp))) (hts _ (hw _ (by simp))) hy hR
  exact vx_runS (As := As) (rest := rest) ⟨hx, hb, hml, hown, hts⟩ (hM As σ H.size P PX hsp) ⟨cw, hts _ (hw _ (by simp))⟩ ⟨zk_Pre_blind, zk_pre_at hk hsz hr hS⟩ rfl hn hls rfl (lv_room (by have := zk_c8_le hrest; omega)) hd ⟨hc, hs⟩
theorem zk_coV (X : zk_Ctx own cc nL E p s m args c) {y : MethodName} {bytes : ByteArray} {maxL n pc idx : Nat} {ret : Option FieldType} {rm : Room} {sp : zk_Sp S} {k : Nat → Bool} (hM : zk_C l E V y bytes maxL ret rm sp) (hw : ∀ w ∈ [Cond.methodLink own idx y, .instanceMethod y, .selects y.cls y y, .initialized y.cls, .code y bytes maxL ret], w ∈ zk_WS)
    (hk0 : ∀ ci, k ci = true → ∃ (T : u_T) (N : Nat), vwCl[ci]? = some (y.cls, T, N))
    (hd : decode cc pc = .ok (.invokevirtual idx, 3)) (hy : y.cls ≠ "java/lang/invoke/MethodHandle" ∧ y.cls ≠ "java/lang/invoke/VarHandle" ∧ (parseMethodDescriptor y.desc).map (fun d => d.parameters.length) = some n) (hR : rm.frames + 1 ≤ R.frames ∧ 8 + (maxL + 11) + rm.locals ≤ R.locals) : zk_CO p l e R s m args below meth c E V nL pc (n + 1) rm.cells rm.slots (zk_rv V k sp) := by
  obtain ⟨hx, hb, hml, hown, hts, hk, hsz⟩ := X
  intro As rest H locs cells slots ls σ P PX hsp hn hrest hc hs hr hS hls
  obtain ⟨hrv, hsp⟩ := hsp
  split at hrv
  · rename_i b As
    unfold zk_is at hrv
    split at hrv
    · rename_i ci fs e1
      obtain ⟨T, N, hcl⟩ := hk0 ci hrv
      have hcode : Cond.code y bytes maxL ret ∈ zk_WS := hw _ (by simp)
      have cb : CallB R s args own idx y bytes maxL ret (.code y bytes maxL ret :: zk_WS) rm rm.cells rm.slots n :=
        callB_of n hts (zk_good (fun w h => (List.mem_cons.mp h).elim (fun z => z ▸ hcode) id)) rfl rfl rfl (hts _ (hw _ (by simp))) (hts _ (hw _ (by simp))) hy hR
      have hst : (Value.ref b :: As).reverse ++ rest = As.reverse ++ Value.ref b :: rest := by simp
      rw [hst]
      exact vx_runV (C := y.cls) (b := b) (As := As) (rest := rest) ⟨hx, hb, hml, hown, hts⟩ (hM (Value.ref b :: As) σ H.size P PX hsp) ⟨cb, hts _ (hw _ (by simp)), hts _ (hw _ (by simp))⟩ ⟨zk_Pre_blind, va_recv hk.1 (hr.one e1 rfl) (q0 := 0) hcl rfl, zk_pre_at hk hsz hr hS⟩ rfl (by simpa using hn) hls rfl (lv_room (by have := zk_c8_le hrest; omega)) hd ⟨hc, hs⟩
    · exact hrv.elim
  · exact hrv.elim
theorem zk_coU (X : zk_Ctx own cc nL E p s m args c) {x y : MethodName} {bytes : ByteArray} {maxL n pc idx : Nat} {ret : Option FieldType} {rm : Room} {sp : zk_Sp S} {k : Nat → Bool} (hM : zk_C l E V y bytes maxL ret rm sp) (hw : ∀ w ∈ [Cond.methodLink own idx x, .sameMethod x.cls y.cls x.name x.desc, .instanceMethod y, .initialized y.cls, .code y bytes maxL ret], w ∈ zk_WS)
    (hk0 : ∀ ci, k ci = true → ∃ (Cn : String) (T : u_T) (N : Nat), vwCl[ci]? = some (Cn, T, N) ∧ Cond.selects Cn x y ∈ zk_WS) (hyx : y = ⟨y.cls, x.name, x.desc⟩)
    (hd : decode cc pc = .ok (.invokevirtual idx, 3)) (hy : y.cls ≠ "java/lang/invoke/MethodHandle" ∧ y.cls ≠ "java/lang/invoke/VarHandle" ∧ (parseMethodDescriptor x.desc).map (fun d => d.parameters.length) = some n) (hR : rm.frames + 1 ≤ R.frames ∧ 8 + (maxL + 11) + rm.locals ≤ R.locals) : zk_CO p l e R s m args below meth c E V nL pc (n + 1) rm.cells rm.slots (zk_rv V k sp) := by
  obtain ⟨hx, hb, hml, hown, hts, hk, hsz⟩ := X
  intro As rest H locs cells slots ls σ P PX hsp hn hrest hc hs hr hS hls
  obtain ⟨hrv, hsp⟩ := hsp
  split at hrv
  · rename_i b As
    unfold zk_is at hrv
    split at hrv
    · rename_i ci fs e1
      obtain ⟨Cn, T, N, hcl, hsel⟩ := hk0 ci hrv
      have hcode : Cond.code y bytes maxL ret ∈ zk_WS := hw _ (by simp)
      have cw : va_CU R s args own Cn y.cls idx x y bytes maxL ret (.code y bytes maxL ret :: zk_WS) rm rm.cells rm.slots n :=
        va_cwU n hts (zk_good (fun w h => by
          simp only [va_wsU, List.cons_append, List.nil_append, List.mem_cons] at h
          rcases h with rfl | rfl | rfl | rfl | rfl | rfl | h
          · exact hw _ (by simp)
          · exact hw _ (by simp)
          · exact hsel
          · exact hw _ (by simp)
          · exact hw _ (by simp)
          · exact hcode
          · exact h)) rfl rfl rfl hyx hy hR
      have hst : (Value.ref b :: As).reverse ++ rest = As.reverse ++ Value.ref b :: rest := by simp
      rw [hst]
      exact vx_runU (b := b) (As := As) (rest := rest) ⟨hx, hb, hml, hown, hts⟩ (hM (Value.ref b :: As) σ H.size P PX hsp) cw ⟨zk_Pre_blind, va_recv hk.1 (hr.one e1 rfl) (q0 := 0) hcl rfl, zk_pre_at hk hsz hr hS⟩ rfl (by simpa using hn) hls rfl (lv_room (by have := zk_c8_le hrest; omega)) hd ⟨hc, hs⟩
    · exact hrv.elim
  · exact hrv.elim
/-- a constructor: the receiver is a reference -/
def zk_ri {S : Type} (sp : zk_Sp S) : zk_Sp S := fun av σ sz P PX => (match av with
  | .ref _ :: _ => True
  | _ => False) ∧ sp av σ sz P PX
theorem zk_coI (X : zk_Ctx own cc nL E p s m args c) {y : MethodName} {bytes : ByteArray} {maxL n pc idx : Nat} {rm : Room} {sp : zk_Sp S} (hM : zk_C l E V y bytes maxL none rm sp) (hw : ∀ w ∈ [Cond.methodLink own idx y, .instanceMethod y, .initialized y.cls, .code y bytes maxL none], w ∈ zk_WS) (hy1 : y.name = "<init>")
    (hd : decode cc pc = .ok (.invokespecial idx, 3)) (hy : y.cls ≠ "java/lang/invoke/MethodHandle" ∧ y.cls ≠ "java/lang/invoke/VarHandle" ∧ (parseMethodDescriptor y.desc).map (fun d => d.parameters.length) = some n) (hR : rm.frames + 1 ≤ R.frames ∧ 8 + (maxL + 11) + rm.locals ≤ R.locals) : zk_CO p l e R s m args below meth c E V nL pc (n + 1) rm.cells rm.slots (zk_ri sp) := by
  obtain ⟨hx, hb, hml, hown, hts, hk, hsz⟩ := X
  intro As rest H locs cells slots ls σ P PX hsp hn hrest hc hs hr hS hls
  obtain ⟨hrv, hsp⟩ := hsp
  split at hrv
  · rename_i b As
    have hcode : Cond.code y bytes maxL none ∈ zk_WS := hw _ (by simp)
    have cb : CallB R s args own idx y bytes maxL none (.code y bytes maxL none :: zk_WS) rm rm.cells rm.slots n :=
      callB_of n hts (zk_good (fun w h => (List.mem_cons.mp h).elim (fun z => z ▸ hcode) id)) rfl rfl rfl (hts _ (hw _ (by simp))) (hts _ (hw _ (by simp))) hy hR
    have hst : (Value.ref b :: As).reverse ++ rest = As.reverse ++ Value.ref b :: rest := by simp
    rw [hst]
    exact vx_runI (b := b) (As := As) (rest := rest) ⟨hx, hb, hml, hown, hts⟩ (hM (Value.ref b :: As) σ H.size P PX hsp) ⟨cb, hy1, hts _ (hw _ (by simp))⟩ ⟨zk_Pre_blind, zk_pre_at hk hsz hr hS⟩ rfl (by simpa using hn) hls rfl (lv_room (by have := zk_c8_le hrest; omega)) hd ⟨hc, hs⟩
  · exact hrv.elim
theorem zk_coIN (X : zk_Ctx own cc nL E p s m args c) {host : String} {y : MethodName} {bytes : ByteArray} {maxL n pc idx : Nat} {rm : Room} {sp : zk_Sp S} (hM : zk_C l E V y bytes maxL none rm sp) (hw : ∀ w ∈ [Cond.instanceMethod y, .initialized y.cls, .code y bytes maxL none], w ∈ zk_WS) (hl : Cond.methodLinkNest own idx y host ∈ lw_tbl) (hy1 : y.name = "<init>")
    (hd : decode cc pc = .ok (.invokespecial idx, 3)) (hy : y.cls ≠ "java/lang/invoke/MethodHandle" ∧ y.cls ≠ "java/lang/invoke/VarHandle" ∧ (parseMethodDescriptor y.desc).map (fun d => d.parameters.length) = some n) (hR : rm.frames + 1 ≤ R.frames ∧ 8 + (maxL + 11) + rm.locals ≤ R.locals) : zk_CO p l e R s m args below meth c E V nL pc (n + 1) rm.cells rm.slots (zk_ri sp) := by
  obtain ⟨hx, hb, hml, hown, hts, hk, hsz⟩ := X
  intro As rest H locs cells slots ls σ P PX hsp hn hrest hc hs hr hS hls
  obtain ⟨hrv, hsp⟩ := hsp
  split at hrv
  · rename_i b As
    have hcode : Cond.code y bytes maxL none ∈ zk_WS := hw _ (by simp)
    have cb : va_CN R s args own idx y host bytes maxL none (.code y bytes maxL none :: zk_WS) rm rm.cells rm.slots n :=
      va_cnB n hts (zk_good (fun w h => (List.mem_cons.mp h).elim (fun z => z ▸ hcode) id)) rfl rfl rfl (hk.2.2.2.1 _ hl rfl) (hts _ (hw _ (by simp))) hy hR
    have hst : (Value.ref b :: As).reverse ++ rest = As.reverse ++ Value.ref b :: rest := by simp
    rw [hst]
    exact vx_runIN (b := b) (As := As) (rest := rest) ⟨hx, hb, hml, hown, hts⟩ (hM (Value.ref b :: As) σ H.size P PX hsp) ⟨cb, hy1, hts _ (hw _ (by simp))⟩ ⟨zk_Pre_blind, zk_pre_at hk hsz hr hS⟩ rfl (by simpa using hn) hls rfl (lv_room (by have := zk_c8_le hrest; omega)) hd ⟨hc, hs⟩
  · exact hrv.elim
theorem zk_callW {H : Heap} {locs : List Loc} {cells slots mc ms pc : Nat} {ls : Array Slot} {rest st0 : List Value} {Q : State → Prop} {P : zk_P S} {PX : zk_X S} {arr : Array Value} (hr : vx_Run p l e R s m args below meth c H locs cells slots mc ms (F0 m pc ls st0) rest (zk_Q E V P arr) (zk_QX E V PX) (zk_A E)) (hS : va_S (zk_A E) s.heap H locs)
    (kk : ∀ (v : Option Value) (σ : S) (H1 : Heap) (locs1 : List Loc), P v σ H1.size → zk_R E (V.1 σ) H1 → va_S (zk_A E) s.heap H1 locs1 → W p l e R s m args below meth c H1 locs1 (cells + mc) (slots + ms) Q (F0 m (pc + 3) ls (zk_psh v rest)))
    (kx : ∀ (X : String) (ce : Cell) (q : Nat) (σ : S) (H1 : Heap) (locs1 : List Loc), PX X σ H1.size → zk_R E (V.1 σ) H1 → va_S (zk_A E) s.heap H1 locs1 → H1[q]? = some ce → ce.vm = .none → s.vm.findClass X = some ce.cls → vx_W p l e R s m args below meth c H1 locs1 (cells + mc) (slots + ms) Q (F0 m pc ls rest) q) : W p l e R s m args below meth c H locs cells slots Q (F0 m pc ls st0) := by
  intro T hT X
  rcases hr T hT X with ⟨v, st₀, t, T', L, h0, X', hL, e1, e2, ⟨⟨v2, σ, hv, hp, hb⟩, hF⟩, st⟩ | ⟨q, st₀, t, T', L, X9, ce, h0, X', hL, e1, e2, ⟨⟨σ, hp, hb⟩, hF⟩, hce, hcv, hcl, st⟩
  · cases hv
    obtain ⟨k1, k2, k3⟩ := vx_keep h0 e1 hS (fun q _ z => z) (fun q z => z) hL hF
    rw [← e1] at hp hb
    obtain ⟨t2, a1, b1⟩ := kk v σ T'.heap (locs ++ L) hp hb k3 T' rfl X'
    refine ⟨t2, st t2 ?_, b1⟩
    cases v <;> exact a1
  · obtain ⟨k1, k2, k3⟩ := vx_keep h0 e1 hS (fun q _ z => z) (fun q z => z) hL hF
    rw [← e1] at hp hb hce
    obtain ⟨t2, a1, b1⟩ := kx X9 ce q σ T'.heap (locs ++ L) hp hb k3 hce hcv hcl T' rfl X'
    exact ⟨t2, st.trans a1, b1⟩
end ZC
