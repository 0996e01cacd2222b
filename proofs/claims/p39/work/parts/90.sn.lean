/-! more calls: static ones of a nest mate, virtual ones of methods with handlers, contracts of a later part of the heap -/
section ZCN
variable {S : Type} {p : Program} {l : Launch} {e : Env} {R : Room} {s : State} {m : MethodId} {args : Array Value} {below : List Frame} {meth : Method} {c : Code}
variable {E : zk_E} {V : zk_V S} {cc : ByteArray} {own : String} {nL : Nat}
theorem zk_coSN (X : zk_Ctx own cc nL E p s m args c) {host : String} {y : MethodName} {bytes : ByteArray} {maxL n pc idx : Nat} {ret : Option FieldType} {rm : Room} {sp : zk_Sp S} (hM : zk_C l E V y bytes maxL ret rm sp) (hw : ∀ w ∈ [Cond.static y, .initialized y.cls, .code y bytes maxL ret], w ∈ zk_WS) (hl : Cond.methodLinkNest own idx y host ∈ lw_tbl)
    (hd : decode cc pc = .ok (.invokestatic idx, 3)) (hy : y.cls ≠ "java/lang/invoke/MethodHandle" ∧ y.cls ≠ "java/lang/invoke/VarHandle" ∧ (parseMethodDescriptor y.desc).map (fun d => d.parameters.length) = some n) (hR : rm.frames + 1 ≤ R.frames ∧ 8 + (maxL + 11) + rm.locals ≤ R.locals) : zk_CO p l e R s m args below meth c E V nL pc n rm.cells rm.slots sp := by
  obtain ⟨hx, hb, hml, hown, hts, hk, hsz⟩ := X
  intro As rest H locs cells slots ls σ P PX hsp hn hrest hc hs hr hS hls
  have hcode : Cond.code y bytes maxL ret ∈ zk_WS := hw _ (by simp)
  have cb : va_CN R s args own idx y host bytes maxL ret (.code y bytes maxL ret :: zk_WS) rm rm.cells rm.slots n :=
    va_cnB n hts (zk_good (fun w h => (List.mem_cons.mp h).elim (fun z => z ▸ hcode) id)) rfl rfl rfl (hk.2.2.2.1 _ hl rfl) (hts _ (hw _ (by simp))) hy hR
  exact vx_runSN (As := As) (rest := rest) ⟨hx, hb, hml, hown, hts⟩ (hM As σ H.size P PX hsp) ⟨cb, hts _ (hw _ (by simp)), trivial⟩ ⟨zk_Pre_blind, zk_pre_at hk hsz hr hS⟩ rfl hn hls rfl (lv_room (by have := zk_c8_le hrest; omega)) hd ⟨hc, hs⟩
theorem zk_coVW (X : zk_Ctx own cc nL E p s m args c) {y : MethodName} {bytes : ByteArray} {maxL n pc idx : Nat} {ret : Option FieldType} {hh : List (Nat × Nat × Nat × Nat)} {rm : Room} {sp : zk_Sp S} {k : Nat → Bool} (hM : zk_CH l E V y bytes maxL ret hh rm sp) (hpx : ∀ av σ sz P PX, sp av σ sz P PX → sp av σ sz P (fun _ _ _ => False)) (hw : ∀ w ∈ [Cond.methodLink own idx y, .instanceMethod y, .selects y.cls y y, .initialized y.cls, .codeWith y bytes maxL ret hh], w ∈ zk_WS)
    (hk0 : ∀ ci, k ci = true → ∃ (T : u_T) (N : Nat), vwCl[ci]? = some (y.cls, T, N))
    (hd : decode cc pc = .ok (.invokevirtual idx, 3)) (hy : y.cls ≠ "java/lang/invoke/MethodHandle" ∧ y.cls ≠ "java/lang/invoke/VarHandle" ∧ (parseMethodDescriptor y.desc).map (fun d => d.parameters.length) = some n) (hR : rm.frames + 1 ≤ R.frames ∧ 8 + (maxL + 11) + rm.locals ≤ R.locals) : zk_CO p l e R s m args below meth c E V nL pc (n + 1) rm.cells rm.slots (zk_rv V k sp) := by
  obtain ⟨hx, hb, hml, hown, hts, hk, hsz⟩ := X
  intro As rest H locs cells slots ls σ P PX hsp hn hrest hc hs hr hS hls
  obtain ⟨hrv, hsp⟩ := hsp
  split at hrv
  · rename_i b As
    unfold zk_is at hrv
    split at hrv
    · rename_i ci fs e1
      obtain ⟨T, N, hcl⟩ := hk0 ci hrv
      have hcode : Cond.codeWith y bytes maxL ret hh ∈ zk_WS := hw _ (by simp)
      have cw : vx_CVW R s args own y.cls idx y bytes maxL ret hh (.codeWith y bytes maxL ret hh :: zk_WS) rm rm.cells rm.slots n :=
        vx_cwVW n hts (zk_good (fun w h => by
          simp only [wsV, List.cons_append, List.nil_append, List.mem_cons] at h
          rcases h with rfl | rfl | rfl | rfl | rfl | h
          · exact hw _ (by simp)
          · exact hw _ (by simp)
          · exact hw _ (by simp)
          · exact hw _ (by simp)
          · exact hcode
          · exact h)) rfl rfl rfl ⟨rfl, hy⟩ hR
      have hst : (Value.ref b :: As).reverse ++ rest = As.reverse ++ Value.ref b :: rest := by simp
      rw [hst]
      have key := vx_runVX (C := y.cls) (b := b) (As := As) (rest := rest) (cells := cells) (slots := slots) (g := F0 m pc ls (As.reverse ++ Value.ref b :: rest)) (e := e) (below := below) (meth := meth) (H := H) (locs := locs) ⟨hx, hb, hml, hown, hts⟩ (hM (Value.ref b :: As) σ H.size P (hpx _ _ _ _ _ hsp)) cw ⟨zk_Pre_blind, va_recv hk.1 (hr.one e1 rfl) (q0 := 0) hcl rfl, zk_pre_at hk hsz hr hS⟩ rfl (by simpa using hn) hls rfl (lv_room (by have := zk_c8_le hrest; omega)) hd ⟨hc, hs⟩
      intro T9 hT X
      rcases key T9 hT X with h | ⟨q, st₀, t, T', L, X9, ce, h0, X', hL, e1, e2, ⟨⟨σ2, hp, hb⟩, hF⟩, hce, hcv, hcl, st⟩
      · exact Or.inl h
      · exact hp.elim
    · exact hrv.elim
  · exact hrv.elim
end ZCN
/-- a contract with handlers over a smaller part of the heap is one over the larger -/
theorem zk_CH.up {S : Type} {l : Launch} {E : zk_E} {V : zk_V S} {y : MethodName} {cc : ByteArray} {maxL : Nat} {ret : Option FieldType} {hh : List (Nat × Nat × Nat × Nat)} {rm : Room} {sp : zk_Sp S} {n : Nat} (hn : E.1 ≤ n) (hb : E.2.2 99 ≤ E.1) (h : zk_CH l (n, E.2) V y cc maxL ret hh rm sp) : zk_CH l E V y cc maxL ret hh rm (fun av σ sz P PX => n ≤ sz ∧ sp av σ sz P PX) := by
  intro av σ sz P hsp
  have hA : ∀ {q : Nat}, zk_A (n, E.2) q → zk_A E q := fun {q} z => Nat.le_trans hn z
  have h2 := h av σ sz P hsp.2
  refine vx_Met_mono ?_ ?_ ?_ (fun q => hA) h2
  · intro a U hU
    obtain ⟨g1, g2, g3, g4, g5⟩ := hU
    exact ⟨g1, g2, g3.lift hn, zk_K.up hn g4, by show n ≤ _; rw [g2]; exact hsp.1⟩
  · intro a s o t q
    exact ⟨by obtain ⟨⟨v, σ2, e1, e2, e3⟩, -⟩ := q; exact ⟨v, σ2, e1, e2, e3.drop hb⟩, q.2.1, fun z z1 z2 => q.2.2 z z1 (fun w => z2 (hA w))⟩
  · intro X s t q
    exact ⟨by obtain ⟨⟨σ2, e2, e3⟩, -⟩ := q; exact ⟨σ2, e2, e3.drop hb⟩, q.2.1, fun z z1 z2 => q.2.2 z z1 (fun w => z2 (hA w))⟩
