/-! the rows over an abstract heap; the step is sound -/
/-- a field of class ci at its place k, named by entry idx of own -/
def zk_FO (own : String) (idx ci k : Nat) : Prop := ∃ (Cn : String) (T : u_T) (N : Nat) (ref : String), vwCl[ci]? = some (Cn, T, N) ∧ k < N ∧ (∀ w ∈ u_ws Cn T N, w ∈ zk_WS) ∧ Cond.fieldLink own idx ref (T k).2.1 (T k).2.2.1 ∈ zk_WS ∧ (ref = (T k).1 ∨ Cond.sameField ref (T k).1 (T k).2.1 (T k).2.2.1 ∈ zk_WS)
/-- .. and it may be written from there -/
def zk_FP (own : String) (isI : Prop) (idx ci k tag : Nat) : Prop := ∃ (Cn : String) (T : u_T) (N : Nat) (ref : String), vwCl[ci]? = some (Cn, T, N) ∧ k < N ∧ (∀ w ∈ u_ws Cn T N, w ∈ zk_WS) ∧ Cond.fieldLink own idx ref (T k).2.1 (T k).2.2.1 ∈ zk_WS ∧ (ref = (T k).1 ∨ Cond.sameField ref (T k).1 (T k).2.1 (T k).2.2.1 ∈ zk_WS) ∧ ((T k).2.2.2 = false ∨ ((T k).2.2.2 = true ∧ isI ∧ (T k).1 = own)) ∧ (∀ j, j < N → parseFieldDescriptor (T j).2.2.1 = some (zk_ty ci j)) ∧ (∀ a, a < N → ∀ b, b < N → a ≠ b → (T a).2.1 ≠ (T b).2.1) ∧ zk_tag (zk_ty ci k) tag = true
def zk_NO (own : String) (idx ci : Nat) : Prop := ∃ (Cn : String) (T : u_T) (N : Nat), vwCl[ci]? = some (Cn, T, N) ∧ (∀ w ∈ u_ws Cn T N, w ∈ zk_WS) ∧ Cond.classLink own idx Cn ∈ zk_WS ∧ Cond.instantiable Cn N ∈ zk_WS ∧ Cond.initialized Cn ∈ zk_WS ∧ (zk_new ci).length = N ∧ (∀ j, j < N → parseFieldDescriptor (T j).2.2.1 = some (zk_ty ci j)) ∧ (∀ j, j < N → defaultValue (zk_ty ci j) = vp_V (zk_new ci) j)
def zk_AN (own : String) (idx k : Nat) : Prop := (k = 7 ∧ Cond.classLink own idx (FieldType.array .int).toString ∈ zk_WS) ∨ ∃ Cn : String, (∀ E : zk_E, (zk_tys E)[k]? = some (E.2.2 k, .object Cn)) ∧ Cond.classLink own idx Cn ∈ zk_WS ∧ Cn ∈ [RX6, RX1, RX9, RX7]
def zk_nx : Cond → Bool
  | .castable .. => true
  | .declares .. => true
  | .methodLinkNest .. => true
  | .fieldLinkNest .. => true
  | .arrayOver (.object _) => true
  | .arrayOver (.array _) => true
  | _ => false
def zk_strs : List (String × Nat × String) := lw_tbl.filterMap (fun w => match w with
  | .stringRef a b t => some (a, b, t)
  | _ => none)
def zk_ncs : List (String × String) := [("java/lang/IllegalStateException", "java/lang/IllegalArgumentException")]
/-- the first limits, where they lie -/
def zk_lim (E : zk_E) (U : State) : Prop := ∃ (t : Nat) (cell : Cell), va_Z "ClerestoryPlan" "FIRST_LIMITS" "[I" (.ref t) (zk_A E) U U.heap ∧ U.heap[t]? = some cell ∧ ¬ zk_A E t ∧ cell.cls = E.2.2 0 ∧ cell.slots = (vp_cell (E.2.2 0) (10, .inl zk_FL)).slots ∧ (∀ k, cell.vm ≠ .statics k) ∧ cell.vm ≠ .unknown ∧ ArrOfT U (E.2.2 97) .int
/-- what holds of the machine all along -/
def zk_K (E : zk_E) (U : State) : Prop := va_K E.2.1 vwCl (zk_tys E) U ∧ vx_Zq Bundle.tN "UNASSIGNED_STACK" Bundle.steD (zk_A E) U U.heap ∧ vx_Zq Bundle.tN "SUPPRESSED_SENTINEL" Bundle.listD (zk_A E) U U.heap ∧ (∀ w ∈ lw_tbl, zk_nx w = true → va_Nw w U) ∧ (∀ q ∈ zk_strs, ∃ a, vk_R q.1 q.2.1 q.2.2 a U) ∧ (∀ q ∈ zk_ncs, va_Nc q.1 q.2 U) ∧ zk_lim E U
theorem zk_nx_warm {w : Cond} (h : zk_nx w = true) {s U : State} (hW : s.WarmedH U.vm) (hZ : va_Nw w s) : va_Nw w U := by
  cases w with
  | castable a b => exact hZ.warmC hW
  | declares x => exact hZ.warmD hW
  | methodLinkNest a i x h => exact hZ.warmM hW
  | fieldLinkNest a i b n d h => exact hZ.warmF hW
  | arrayOver t =>
    cases t with
    | object Cn => exact va_AO.moved hW.alike hZ
    | array t => exact over_moved hW.alike hZ
    | _ => simp [zk_nx] at h
  | _ => simp [zk_nx] at h
theorem zk_K.move {E : zk_E} {s U : State} (hW : s.WarmedH U.vm) (hH : ∀ q : Nat, q < s.heap.size → ¬ zk_A E q → U.heap[q]? = s.heap[q]?) (h : zk_K E s) : zk_K E U := by
  obtain ⟨h1, h2, h3, h4, h5, h6, t, cell, h7, h8, h9, h10, h11, h12, h13, h14⟩ := h
  refine ⟨va_K.moved hW.alike h1, vx_Zq.moved hW.alike (h2.kept hH), vx_Zq.moved hW.alike (h3.kept hH), fun w hw hn => zk_nx_warm hn hW (h4 w hw hn), fun q hq => ?_, fun q hq => (h6 q hq).moved hW.alike, t, cell, va_Z.moved hW.alike (h7.kept hH), ?_, h9, h10, h11, h12, h13, arrOfT_moved hW.alike h14⟩
  · obtain ⟨a, ha⟩ := h5 q hq
    exact ⟨a, ha.warm hW⟩
  · rw [hH t (Array.getElem?_eq_some_iff.mp h8).1 h9]
    exact h8
theorem zk_P1 {E : zk_E} {H : Heap} {a : Nat} {e : va_E} (h : va_at E.2.1 vwCl (a, e) H) : va_P E.2.1 vwCl [(a, e)] H := by
  intro k q hk
  match k, hk with
  | 0, hk => cases hk; exact h
theorem zk_R.one {E : zk_E} {h : zk_Hp} {H : Heap} {a : Nat} {e : va_E} (hr : zk_R E h H) (ha : h a = some e) (hn : zk_int e = false) : va_P E.2.1 vwCl [(a, e)] H := zk_P1 ((hr a e ha).ob hn)
theorem zk_K.sc {E : zk_E} {U : State} (h : zk_K E U) : ArrOfT U (E.2.2 97) .int := by
  obtain ⟨h1, h2, h3, h4, h5, h6, t, cell, h7, h8, h9, h10, h11, h12, h13, h14⟩ := h
  exact h14
def zk_up (h : zk_Hp) (a : Nat) (e : va_E) : zk_Hp := fun q => if q = a then some e else h q
theorem zk_R.up {E : zk_E} {h : zk_Hp} {H H1 : Heap} {a : Nat} {e : va_E} (hr : zk_R E h H) (he : va_at E.2.1 vwCl (a, e) H1) (oq : ∀ q : Nat, q ≠ a → q < H.size → H1[q]? = H[q]?) : zk_R E (zk_up h a e) H1 := by
  intro b e2 hb
  unfold zk_up at hb
  split at hb
  · rename_i q
    subst q
    cases hb
    exact Or.inl he
  · rename_i q
    have h2 := hr b e2 hb
    exact h2.kept (oq b q h2.lt)
/-- a state with a cell written tells no more than the heap with that cell written -/
def zk_VK {S : Type} (E : zk_E) (V : zk_V S) : Prop := (∀ σ a e, V.2.2.1 σ a e → E.1 ≤ a ∧ ∀ b e2, V.1 (V.2.1 σ a e) b = some e2 → zk_up (V.1 σ) a e b = some e2) ∧ ∀ σ a k v ci fs, V.1 σ a = some (.inr (ci, fs)) → V.2.2.2.2 σ a k v → E.1 ≤ a ∧ ∀ b e2, V.1 (V.2.2.2.1 σ a k v) b = some e2 → zk_up (V.1 σ) a (.inr (ci, fs.set k v)) b = some e2
theorem zk_R.wr {S : Type} {E : zk_E} {V : zk_V S} {σ : S} {a : Nat} {e : va_E} {H : Heap} (hV : zk_VK E V) (h1 : V.2.2.1 σ a e) (hr : zk_R E (zk_up (V.1 σ) a e) H) : zk_R E (V.1 (V.2.1 σ a e)) H := fun b e2 hb => hr b e2 ((hV.1 σ a e h1).2 b e2 hb)
theorem zk_R.pf {S : Type} {E : zk_E} {V : zk_V S} {σ : S} {a k ci : Nat} {v : Value} {fs : List Value} {H : Heap} (hV : zk_VK E V) (h0 : V.1 σ a = some (.inr (ci, fs))) (h1 : V.2.2.2.2 σ a k v) (hr : zk_R E (zk_up (V.1 σ) a (.inr (ci, fs.set k v))) H) : zk_R E (V.1 (V.2.2.2.1 σ a k v)) H := fun b e2 hb => hr b e2 ((hV.2 σ a k v ci fs h0 h1).2 b e2 hb)
section ZR
variable {p : Program} {l : Launch} {e : Env} {R : Room} {s : State} {m : MethodId} {args : Array Value} {below : List Frame} {meth : Method} {c : Code} {H : Heap} {locs : List Loc} {cells slots : Nat} {Q : State → Prop}
variable {E : zk_E} {h : zk_Hp} {cc : ByteArray} {own : String} {pc : Nat} {ls : Array Slot} {r : List Value} {a : Nat}
theorem zk_row_get (hx : p.tables.exec = Jvm.exec) (hb : c.code = cc) (hts : ∀ w ∈ zk_WS, w.before args s = true) (hown : s.vm.findClass own = some m.cls) (hk : va_K E.2.1 vwCl (zk_tys E) s) (hr : zk_R E h H) {i k : Nat} {cs : List Nat} (hf : ∀ ci ∈ cs, zk_FO own i ci k) {F : Value → Prop} (hg : zk_fld (h a) cs k F) (hd : decode cc pc = .ok (.getfield i, 3))
    (kk : ∀ v, F v → W p l e R s m args below meth c H locs cells slots Q (F0 m (pc + 3) ls (v :: r))) : W p l e R s m args below meth c H locs cells slots Q (F0 m pc ls (.ref a :: r)) := by
  unfold zk_fld at hg
  split at hg
  · rename_i ci fs e1
    obtain ⟨hci, hg⟩ := hg
    obtain ⟨v, e3, hg⟩ := zk_nth_some hg
    obtain ⟨Cn, T, N, ref, h1, h2, h3, h4, h5⟩ := hf ci hci
    refine va_get hx hb hts h3 hown hk (hr.one e1 rfl) 0 rfl h1 k h2 (hts _ h4) ?_ e3 hd (kk v hg)
    rcases h5 with h5 | h5
    · rw [h5]; exact fun _ z => z
    · exact u_same (hts _ h5)
  · exact hg.elim
theorem zk_row_put (hx : p.tables.exec = Jvm.exec) (hb : c.code = cc) (hts : ∀ w ∈ zk_WS, w.before args s = true) (hown : s.vm.findClass own = some m.cls) (hk : va_K E.2.1 vwCl (zk_tys E) s) (hr : zk_R E h H) {F : Prop} (hAf : ∀ {ci : Nat} {fs : List Value}, h a = some (.inr (ci, fs)) → F → E.1 ≤ a) {H0 : Heap} (hS : va_S (zk_A E) H0 H locs) {i k tag : Nat} {cs : List Nat} (hf : ∀ ci ∈ cs, zk_FP own (meth.name = "<init>") i ci k tag) {v : Value} (hg : zk_put (h a) cs k tag v F) (hd : decode cc pc = .ok (.putfield i, 3))
    (kk : ∀ (ci : Nat) (fs : List Value) (H2 : Heap) (locs2 : List Loc), h a = some (.inr (ci, fs)) → F → H2.size = H.size → zk_R E (zk_up h a (.inr (ci, fs.set k v))) H2 → va_S (zk_A E) H0 H2 locs2 → W p l e R s m args below meth c H2 locs2 cells slots Q (F0 m (pc + 3) ls r)) : W p l e R s m args below meth c H locs cells slots Q (F0 m pc ls (v :: .ref a :: r)) := by
  unfold zk_put at hg
  split at hg
  · rename_i ci fs e1
    · obtain ⟨hci, hfk, hl, hg⟩ := hg
      obtain ⟨Cn, T, N, ref, hc, hk2, hin, hlink, hsm, hfin, hty, hnm, htag⟩ := hf ci hci
      obtain ⟨hn, hfit⟩ := zk_fok_ok htag hfk
      have hsame : ∀ x, s.fieldFound? (T k).1 (T k).2.1 (T k).2.2.1 = some x → s.fieldFound? ref (T k).2.1 (T k).2.2.1 = some x := by
        rcases hsm with h5 | h5
        · rw [h5]; exact fun _ z => z
        · exact u_same (hts _ h5)
      have hap := va_apart (own := own) hts hin (zk_ty ci) hty hnm hk hc
      have hAa := hAf e1 hg
      obtain ⟨r2, h1, cell, q1, q2, q3, q4⟩ := (hr a _ e1).ob rfl
      have hr2 : r2 = (Cn, T, N) := Option.some.inj (h1.symm.trans hc)
      subst hr2
      obtain ⟨hS2, hfc, kC, hkC, hkind⟩ := hk.1 ci _ hc
      obtain ⟨cf, kf, fi, f, hi, hsl⟩ := hS2 k hk2
      have hlay := hts _ (hin _ (u_in_lay hk2))
      have hst := (u_facts hfc hkC (u_lays hts hin hk2) hi).1
      have fin : ∀ H' : Heap, H'[a]? = some (cell.setSlot f.slot v) → H'.size = H.size → (∀ q, q ≠ a → H'[q]? = H[q]?) → W p l e R s m args below meth c H' (locs ++ [⟨a, f.slot⟩]) cells slots Q { F0 m pc ls (v :: .ref a :: r) with pc := pc + 3, stack := r } := fun H' z1 z2 z3 => by
        rw [hsl] at z1 ⊢
        exact kk ci fs H' _ e1 hg z2 (hr.up ⟨_, hc, t_OB.to (V := updV (vp_V fs) k v) ⟨_, z1, q2, q3, t_set q4 hap hk2 v⟩ (fun j _ => vp_updV_set hl v j)⟩ (fun q z _ => z3 q z)) (hS.put z2 z3 hAa)
      rcases hfin with hfin | ⟨hfin, hin2, hdecl⟩
      · unfold u_lay at hlay
        rw [if_neg (by rw [hfin]; decide)] at hlay
        have h6 := u_store hfc hkC hkind hlay hi (hty k hk2) hn hfit
        exact W.putK hx hb (f := f) ⟨hown, hts _ hlink, ⟨_, _, _, hsame _ hi⟩, hst⟩ (by rw [q2]; exact h6) q1 q3 (by rw [hsl]; exact k2_hasslot (q4 k hk2)) rfl rfl hd fin
      · unfold u_lay at hlay
        rw [if_pos hfin] at hlay
        have hcf : m.cls = cf := by
          obtain ⟨_, _, c', _, _, _, -, -, hf', -, -, -, hown2, -⟩ := Cond.laysFinal_spec hlay
          have z1 : c' = cf := by have := hi.symm.trans hf'; simp at this; exact this.1.symm
          rw [hdecl] at hown2
          rw [← z1]; exact Option.some.inj (hown.symm.trans hown2)
        have h6 := u_fits hfc hkC hkind (Or.inr hlay) hi (hty k hk2) hn hfit
        exact W.putFinK hx hb hown (hts _ hlink) (hsame _ hi) hst hcf hin2 (by rw [q2]; exact h6) q1 q3 (by rw [hsl]; exact k2_hasslot (q4 k hk2)) rfl rfl hd fin
  · exact hg.elim
theorem zk_row_len (hx : p.tables.exec = Jvm.exec) (hb : c.code = cc) (hk : va_K E.2.1 vwCl (zk_tys E) s) (hsc : ArrOfT s (E.2.2 97) .int) (hr : zk_R E h H) {F : Int32 → Prop} (hg : zk_lenq E (h a) F) (hd : decode cc pc = .ok (.arraylength, 1))
    (kk : ∀ v, F v → W p l e R s m args below meth c H locs cells slots Q (F0 m (pc + 1) ls (.int v :: r))) : W p l e R s m args below meth c H locs cells slots Q (F0 m pc ls (.ref a :: r)) := by
  unfold zk_lenq at hg
  split at hg
  · rename_i cA x e1
    obtain ⟨hm, hg⟩ := hg
    rcases hr a _ e1 with hat | ⟨-, hw⟩
    case inr =>
      unfold zk_wk at hw
      split at hw
      · rename_i c9 n f e9
        cases e9
        obtain ⟨cell, g1, g2, g3, g4, g5, g6⟩ := hw
        exact W.alen (n := Int32.ofNat n) hx hb g1 ⟨g3, by rw [g2]; exact (hsc n (fun _ => .int 0)).2⟩ (by rw [g5] <;> rfl) rfl rfl hd (kk _ hg)
      · exact hw.elim
    simp only [List.mem_cons, List.not_mem_nil, or_false] at hm
    rcases hm with rfl | rfl | rfl | rfl | rfl | rfl
    · exact va_alen hx hb hk (zk_P1 hat) 0 0 rfl rfl rfl hd (kk _ hg)
    · exact va_alen hx hb hk (zk_P1 hat) 0 3 rfl rfl rfl hd (kk _ hg)
    · exact va_alen hx hb hk (zk_P1 hat) 0 4 rfl rfl rfl hd (kk _ hg)
    · exact va_alen hx hb hk (zk_P1 hat) 0 5 rfl rfl rfl hd (kk _ hg)
    · exact va_alen hx hb hk (zk_P1 hat) 0 6 rfl rfl rfl hd (kk _ hg)
    · exact va_alen hx hb hk (zk_P1 hat) 0 7 rfl rfl rfl hd (kk _ hg)
  · exact hg.elim
theorem zk_row_ist (hx : p.tables.exec = Jvm.exec) (hb : c.code = cc) (hk : va_K E.2.1 vwCl (zk_tys E) s) (hr : zk_R E h H) {F : va_E → Prop} (hAf : ∀ e2, F e2 → E.1 ≤ a) {H0 : Heap} (hS : va_S (zk_A E) H0 H locs) {i : Int32} {x : Int32} (hg : zk_ist (h a) (zk_ar E 0) i x F) (hd : decode cc pc = .ok (.iastore, 1))
    (kk : ∀ (e2 : va_E) (H2 : Heap) (locs2 : List Loc), F e2 → H2.size = H.size → zk_R E (zk_up h a e2) H2 → va_S (zk_A E) H0 H2 locs2 → W p l e R s m args below meth c H2 locs2 cells slots Q (F0 m (pc + 1) ls r)) : W p l e R s m args below meth c H locs cells slots Q (F0 m pc ls (.int x :: .int i :: .ref a :: r)) := by
  unfold zk_ist at hg
  split at hg
  · rename_i cA n f e1
    obtain ⟨rfl, hin, hg⟩ := hg
    have hAa := hAf _ hg
    have hat := (hr a _ e1).str hAa
    refine W.iast hx hb hat ((hk.2 0 _ rfl).1 n (fun j => .int (f j))) (fun q => by cases q) (by show ¬ (i < 0 ∨ (arrV _ _ _).slots.size ≤ _); rw [arrV_size]; exact hin) rfl rfl hd fun H1 z1 z2 z3 => ?_
    refine kk _ H1 _ hg z2 (hr.up ?_ (fun q z _ => z3 q z)) (hS.put z2 z3 hAa)
    show H1[a]? = some (vp_cell _ _)
    rw [z1]
    rw [vp_cell_i, vp_cell_i, arrV_store]
    congr 2
    funext q
    by_cases hq : q = i.toNatClampNeg
    · subst hq
      simp [updV, upd]
      try rfl
    · simp [updV, upd, hq]
  · exact hg.elim
theorem zk_row_qst (hx : p.tables.exec = Jvm.exec) (hb : c.code = cc) (hkk : zk_K E s) (hr : zk_R E h H) {F : va_E → Prop} (hAf : ∀ e2, F e2 → E.1 ≤ a) {H0 : Heap} (hS : va_S (zk_A E) H0 H locs) {i : Int32} {v : Nat} (hg : zk_qst E (h a) (h v) i v F) (hd : decode cc pc = .ok (.aastore, 1))
    (kk : ∀ (e2 : va_E) (H2 : Heap) (locs2 : List Loc), F e2 → H2.size = H.size → zk_R E (zk_up h a e2) H2 → va_S (zk_A E) H0 H2 locs2 → W p l e R s m args below meth c H2 locs2 cells slots Q (F0 m (pc + 1) ls r)) : W p l e R s m args below meth c H locs cells slots Q (F0 m pc ls (.ref v :: .int i :: .ref a :: r)) := by
  have hk := hkk.1
  unfold zk_qst at hg
  split at hg
  · rename_i cA n f ci vs e1 e2
    obtain ⟨hqc, hin, hg⟩ := hg
    have hAa := hAf _ hg
    have hat := (hr a _ e1).str hAa
    have key : ∀ {rr : vw_C}, vwCl[ci]? = some rr → (∃ t0 : Nat, (zk_tys E)[t0]? = some (cA, .object rr.1)) → W p l e R s m args below meth c H locs cells slots Q (F0 m pc ls (.ref v :: .int i :: .ref a :: r)) := by
      intro rr hc ⟨t0, ht⟩
      have hlt : i.toNatClampNeg < n := Nat.not_le.mp fun q => hin (Or.inr q)
      have h0 : ¬ i < 0 := fun q => hin (Or.inl q)
      obtain ⟨r', hr', cellV, g1, g2, g3, -⟩ := (hr v _ e2).ob rfl
      have hcls := (hk.1 ci rr hc).2
      obtain ⟨kA, comp, k1, k2, k3, -⟩ := (hk.2 t0 _ ht).2
      have hcomp : comp = E.2.1.1 ci := Option.some.inj (k3.symm.trans hcls.1)
      subst hcomp
      obtain ⟨kC, hkC, -⟩ := hcls.2
      refine W.aast hx hb hat (fun q h => by cases h) (fun h => by cases h) k1 k2 rfl hkC ⟨h0, by show _ < (arrV _ _ _).slots.size; rw [arrV_size]; exact hlt⟩ g1 (fun q h => by rw [g3] at h; cases h) (by rw [g2]; exact hkC) (by rw [g2]; exact va_assign hcls) rfl rfl hd fun H1 z1 z2 z3 => ?_
      refine kk _ H1 _ hg z2 (hr.up ?_ (fun q z _ => z3 q z)) (hS.put z2 z3 hAa)
      show H1[a]? = some (vp_cell _ _)
      rw [z1]
      rw [vp_cell_q, vp_cell_q, arrV_store]
      congr 2
      funext q
      by_cases hq : q = i.toNatClampNeg
      · subst hq
        simp [updV, va_up, va_rf]
      · simp [updV, va_up, hq]
    rcases hqc with ⟨rfl, rfl⟩ | ⟨rfl, rfl⟩ | ⟨rfl, rfl⟩
    · exact key rfl ⟨3, rfl⟩
    · exact key rfl ⟨4, rfl⟩
    · exact key rfl ⟨6, rfl⟩
  · rename_i cA n f c2 n2 g2 e1 e2
    obtain ⟨⟨rfl, rfl⟩, hv28, hin, hg⟩ := hg
    have hAa := hAf _ hg
    have hat := (hr a _ e1).str hAa
    have hlt : i.toNatClampNeg < n := Nat.not_le.mp fun q => hin (Or.inr q)
    have h0 : ¬ i < 0 := fun q => hin (Or.inl q)
    have g1 : H[v]? = some (vp_cell (E.2.2 0) (n2, .inl g2)) := (hr v _ e2).str (Nat.le_trans (Nat.le_add_right _ 28) hv28)
    have hover : (Cond.arrayOver (.array .int)).before #[] s = true := hkk.2.2.2.1 _ zk_w_overA rfl
    obtain ⟨comp, c7, kA, f1, -, f3, f4, f5⟩ := arrayOverA_spec hover
    have h7 : s.vm.findClass ("[" ++ (FieldType.array .int).toString) = some (E.2.2 7) := (hk.2 7 (E.2.2 7, .array .int) rfl).2
    have h0c : s.vm.findClass "[I" = some (E.2.2 0) := (hk.2 0 (E.2.2 0, .int) rfl).2
    cases h7.symm.trans f5
    have f6 : s.vm.findClass "[I" = some comp := f1
    cases h0c.symm.trans f6
    obtain ⟨kC, hkC, -⟩ := Vm.findClass_spec h0c
    refine W.aast hx hb hat (fun q h => by cases h) (fun h => by cases h) f3 f4 rfl hkC ⟨h0, by show _ < (arrV _ _ _).slots.size; rw [arrV_size]; exact hlt⟩ g1 (fun q h => by cases h) hkC (by show s.vm.assignableAux (255 + 1) (E.2.2 0) (E.2.2 0) = true; rw [Vm.assignableAux, Bool.or_eq_true, beq_iff_eq]; exact Or.inl rfl) rfl rfl hd fun H1 z1 z2 z3 => ?_
    refine kk _ H1 _ hg z2 (hr.up ?_ (fun q z _ => z3 q z)) (hS.put z2 z3 hAa)
    show H1[a]? = some (vp_cell _ _)
    rw [z1]
    rw [vp_cell_q, vp_cell_q, arrV_store]
    congr 2
    funext q
    by_cases hq : q = i.toNatClampNeg
    · subst hq
      simp [updV, va_up, va_rf]
    · simp [updV, va_up, hq]
  · exact hg.elim
theorem zk_row_qsn (hx : p.tables.exec = Jvm.exec) (hb : c.code = cc) (hk : va_K E.2.1 vwCl (zk_tys E) s) (hr : zk_R E h H) {F : va_E → Prop} (hAf : ∀ e2, F e2 → E.1 ≤ a) {H0 : Heap} (hS : va_S (zk_A E) H0 H locs) {i : Int32} (hg : zk_qsn (h a) i [zk_ar E 3, zk_ar E 4, zk_ar E 5, zk_ar E 6] F) (hd : decode cc pc = .ok (.aastore, 1))
    (kk : ∀ (e2 : va_E) (H2 : Heap) (locs2 : List Loc), F e2 → H2.size = H.size → zk_R E (zk_up h a e2) H2 → va_S (zk_A E) H0 H2 locs2 → W p l e R s m args below meth c H2 locs2 cells slots Q (F0 m (pc + 1) ls r)) : W p l e R s m args below meth c H locs cells slots Q (F0 m pc ls (.null :: .int i :: .ref a :: r)) := by
  unfold zk_qsn at hg
  split at hg
  · rename_i cA n f e1
    obtain ⟨hqc, hin, hg⟩ := hg
    have hAa := hAf _ hg
    have hat := (hr a _ e1).str hAa
    have key : ∀ {Cn : String} (t0 : Nat), (zk_tys E)[t0]? = some (cA, .object Cn) → W p l e R s m args below meth c H locs cells slots Q (F0 m pc ls (.null :: .int i :: .ref a :: r)) := by
      intro Cn t0 ht
      refine va_WaastN (C := Cn) hx hb hat ((hk.2 t0 _ ht).1 n (fun j => va_rf (f j))) (fun h => by cases h) (by show ¬ (i < 0 ∨ (arrV _ _ _).slots.size ≤ _); rw [arrV_size]; exact hin) rfl rfl hd fun H1 z1 z2 z3 => ?_
      refine kk _ H1 _ hg z2 (hr.up ?_ (fun q z _ => z3 q z)) (hS.put z2 z3 hAa)
      show H1[a]? = some (vp_cell _ _)
      rw [z1]
      rw [vp_cell_q, vp_cell_q, arrV_store]
      congr 2
      funext q
      by_cases hq : q = i.toNatClampNeg
      · subst hq
        simp [updV, va_up, va_rf]
      · simp [updV, va_up, hq]
    simp only [List.mem_cons, List.not_mem_nil, or_false] at hqc
    rcases hqc with rfl | rfl | rfl | rfl
    · exact key 3 rfl
    · exact key 4 rfl
    · exact key 5 rfl
    · exact key 6 rfl
  · exact hg.elim
theorem zk_S_push {H0 H1 : Heap} (hS : va_S (zk_A E) H0 H locs) (z1 : H1.size = H.size + 1) (o1 : ∀ q : Nat, q < H.size → H1[q]? = H[q]?) : va_S (zk_A E) H0 H1 locs := ⟨Nat.le_trans hS.1 (by omega), fun x h1 h2 => (o1 x (Nat.lt_of_lt_of_le h1 hS.1)).trans (hS.2.1 x h1 h2), hS.2.2⟩
theorem zk_row_new (hx : p.tables.exec = Jvm.exec) (hb : c.code = cc) (hts : ∀ w ∈ zk_WS, w.before args s = true) (hown : s.vm.findClass own = some m.cls) (hk : va_K E.2.1 vwCl (zk_tys E) s) (hr : zk_R E h H) {H0 : Heap} (hS : va_S (zk_A E) H0 H locs) (hA : ∀ q, H0.size ≤ q → zk_A E q) {sz : Nat} (hz : H.size = sz) {i ci : Nat} (hn : zk_NO own i ci) (hc : cells + 1 ≤ R.cells) (hs : slots + (zk_new ci).length ≤ R.slots) (hd : decode cc pc = .ok (.new i, 3))
    (kk : ∀ (H2 : Heap), H2.size = sz + 1 → zk_R E (zk_up h sz (.inr (ci, zk_new ci))) H2 → va_S (zk_A E) H0 H2 locs → W p l e R s m args below meth c H2 locs (cells + 1) (slots + (zk_new ci).length) Q (F0 m (pc + 3) ls (.ref sz :: r))) : W p l e R s m args below meth c H locs cells slots Q (F0 m pc ls r) := by
  obtain ⟨Cn, T, N, hcl, hin, h1, h2, h3, h4, hty, hfs⟩ := hn
  subst hz
  have hKn := hk.1 ci _ hcl
  rw [h4] at hs kk
  refine W.newcK hx hb hown (hts _ h1) (hts _ h2) (hts _ h3) rfl hd hc hs hKn.2.1 rfl fun H1 kC hkC e1 z1 o1 => ?_
  exact kk H1 z1 (hr.up ⟨_, hcl, (u_born (zk_ty ci) hts hin hKn hkC e1 hty).to hfs⟩ (fun q _ z => o1 q z)) (zk_S_push hS z1 o1)
theorem zk_row_newa (hx : p.tables.exec = Jvm.exec) (hb : c.code = cc) (hts : ∀ w ∈ zk_WS, w.before args s = true) (hown : s.vm.findClass own = some m.cls) (hk : va_K E.2.1 vwCl (zk_tys E) s) (hr : zk_R E h H) {H0 : Heap} (hS : va_S (zk_A E) H0 H locs) (hA : ∀ q, H0.size ≤ q → zk_A E q) {sz : Nat} (hz : H.size = sz) {n : Int32} {t : ArrayType} (hn : ¬ n < 0) (hbig : n.toNatClampNeg ≤ 1000000) (hc : cells + 1 ≤ R.cells) (hs : slots + n.toNatClampNeg ≤ R.slots) {F : va_E → Prop} (hg : zk_nar E t n.toNatClampNeg F) (hd : decode cc pc = .ok (.newarray t, 2))
    (kk : ∀ (e2 : va_E) (H2 : Heap), F e2 → H2.size = sz + 1 → zk_R E (zk_up h sz e2) H2 → va_S (zk_A E) H0 H2 locs → W p l e R s m args below meth c H2 locs (cells + 1) (slots + n.toNatClampNeg) Q (F0 m (pc + 2) ls (.ref sz :: r))) : W p l e R s m args below meth c H locs cells slots Q (F0 m pc ls (.int n :: r)) := by
  subst hz
  have key : ∀ (ty : FieldType) (k : Nat) (e2 : va_E), newarray.typeOf t = ty → Cond.arrayClass ty ∈ zk_WS → (∃ a0 : vp_A, e2 = .inl (E.2.2 k, a0) ∧ ∀ cA : ClassId, vp_cell cA a0 = arrV cA n.toNatClampNeg (fun _ => defaultValue ty)) → (zk_tys E)[k]? = some (E.2.2 k, ty) → (va_RA s (E.2.2 k) ty → s.vm.findClass ("[" ++ ty.toString) = some (E.2.2 k)) → n.toNatClampNeg * componentBytes ty ≤ 536870912 → F e2 → W p l e R s m args below meth c H locs cells slots Q (F0 m pc ls (.int n :: r)) := by
    intro ty k e2 hty hw ⟨a0, he, ha⟩ ht hra hby hF
    subst hty
    refine va_newaK hx hb (hts _ hw) rfl hd rfl hn rfl hby hc hs rfl fun H1 cA e1 z1 o1 hAr hNm => ?_
    have hcA : cA = E.2.2 k := Option.some.inj (hNm.symm.trans (hra (hk.2 k _ ht).2))
    subst hcA
    refine kk e2 H1 hF z1 (hr.up ?_ (fun q _ z => o1 q z)) (zk_S_push hS z1 o1)
    rw [he]
    show H1[H.size]? = some (vp_cell _ _)
    rw [ha]
    exact e1
  unfold zk_nar at hg
  split at hg
  · exact key .int 0 _ rfl zk_w_arrI ⟨_, rfl, fun cA => rfl⟩ rfl (fun z => z) (by show _ * 4 ≤ _; omega) hg
  · exact hg.elim
theorem zk_row_newq (hx : p.tables.exec = Jvm.exec) (hb : c.code = cc) (hts : ∀ w ∈ zk_WS, w.before args s = true) (hown : s.vm.findClass own = some m.cls) (hk : zk_K E s) (hr : zk_R E h H) {H0 : Heap} (hS : va_S (zk_A E) H0 H locs) (hA : ∀ q, H0.size ≤ q → zk_A E q) {sz : Nat} (hz : H.size = sz) {n : Int32} (hn : ¬ n < 0) (hbig : n.toNatClampNeg ≤ 1000000) (hc : cells + 1 ≤ R.cells) (hs : slots + n.toNatClampNeg ≤ R.slots) {i k : Nat} (ha : zk_AN own i k) (hd : decode cc pc = .ok (.anewarray i, 3))
    (kk : ∀ (H2 : Heap), H2.size = sz + 1 → zk_R E (zk_up h sz (zk_nqr E k n.toNatClampNeg)) H2 → va_S (zk_A E) H0 H2 locs → W p l e R s m args below meth c H2 locs (cells + 1) (slots + n.toNatClampNeg) Q (F0 m (pc + 3) ls (.ref sz :: r))) : W p l e R s m args below meth c H locs cells slots Q (F0 m pc ls (.int n :: r)) := by
  subst hz
  rcases ha with ⟨rfl, hw⟩ | ⟨Cn, ht, hw, hm⟩
  · have ho : (Cond.arrayOver (.array .int)).before args s = true := over_moved (Vm.Alike.refl _) (hk.2.2.2.1 _ zk_w_overA rfl : (Cond.arrayOver (.array .int)).before #[] s = true)
    refine W.anewA hx hb hown (hts _ hw) ho rfl hd rfl hn (by omega) hc hs fun cA kA comp f1 f2 f3 f4 => ?_
    generalize hH1 : H.push ({ cls := cA, slots := Array.replicate n.toNatClampNeg .null, vm := .none } : Cell) = H1
    have z1 : H1.size = H.size + 1 := by rw [← hH1, Array.size_push]
    have e1 : H1[H.size]? = some (arrV cA n.toNatClampNeg (fun _ => .null)) := by rw [← hH1, Array.getElem?_push_size, ← arrV_new]
    have o1 : ∀ q : Nat, q < H.size → H1[q]? = H[q]? := fun q hq => by rw [← hH1, Array.getElem?_push, if_neg (Nat.ne_of_lt hq)]
    have h7 : s.vm.findClass ("[" ++ (FieldType.array .int).toString) = some (E.2.2 7) := (hk.1.2 7 (E.2.2 7, .array .int) rfl).2
    cases f1.symm.trans h7
    refine kk H1 z1 (hr.up ?_ (fun q _ z => o1 q z)) (zk_S_push hS z1 o1)
    show H1[H.size]? = some (vp_cell _ _)
    rw [vp_cell_q]
    exact e1
  · have ho : Cond.arrayOver (.object Cn) ∈ lw_tbl := zk_w_over Cn hm
    refine W.anew hx hb hown (hts _ hw) (va_AO.use (hk.2.2.2.1 _ ho rfl)) rfl hd rfl hn (by omega) hc hs fun cA kA comp f1 f2 f3 f4 => ?_
    generalize hH1 : H.push ({ cls := cA, slots := Array.replicate n.toNatClampNeg .null, vm := .none } : Cell) = H1
    have z1 : H1.size = H.size + 1 := by rw [← hH1, Array.size_push]
    have e1 : H1[H.size]? = some (arrV cA n.toNatClampNeg (fun _ => .null)) := by rw [← hH1, Array.getElem?_push_size, ← arrV_new]
    have o1 : ∀ q : Nat, q < H.size → H1[q]? = H[q]? := fun q hq => by rw [← hH1, Array.getElem?_push, if_neg (Nat.ne_of_lt hq)]
    obtain ⟨kA9, comp9, g1, g2, g3, g4⟩ := (hk.1.2 k _ (ht E)).2
    have hcA : cA = E.2.2 k := Option.some.inj (f1.symm.trans g4)
    subst hcA
    refine kk H1 z1 (hr.up ?_ (fun q _ z => o1 q z)) (zk_S_push hS z1 o1)
    show H1[H.size]? = some (vp_cell _ _)
    rw [vp_cell_q]
    exact e1
end ZR
/-- what the tables say of a method's entries -/
def zk_MO (own : String) (cc : ByteArray) (isI : Prop) (M : zk_M) : Prop :=
  (∀ pc i, M.1 pc = some i → ∃ len, decode cc pc = .ok (i, len) ∧ (zk_lenof i = 0 ∨ len = zk_lenof i)) ∧
  (∀ i cs k, M.2.2.1.1 i = some (cs, k) → ∀ ci ∈ cs, zk_FO own i ci k) ∧
  (∀ i cs k tag, M.2.2.1.2.1 i = some (cs, k, tag) → ∀ ci ∈ cs, zk_FP own isI i ci k tag) ∧
  (∀ i ci, M.2.2.1.2.2.1 i = some ci → zk_NO own i ci) ∧
  (∀ i k, M.2.2.1.2.2.2.1 i = some k → zk_AN own i k) ∧
  (∀ i v, M.2.2.1.2.2.2.2 i = some v → (∀ x, v = .int x → Cond.constant own i x ∈ zk_WS) ∧ (∀ x, v = .long x → Cond.constantLong own i x ∈ zk_WS))
section ZS
variable {S : Type} {p : Program} {l : Launch} {e : Env} {R : Room} {s : State} {m : MethodId} {args : Array Value} {below : List Frame} {meth : Method} {c : Code} {Q : State → Prop}
variable {E : zk_E} {V : zk_V S} {M : zk_M} {C : zk_Cl S} {P : zk_P S} {PX : zk_X S} {cc : ByteArray} {own : String} {nL : Nat}
/-- from here the machine comes to Q -/
def zk_G (p : Program) (l : Launch) (e : Env) (R : Room) (s : State) (m : MethodId) (args : Array Value) (below : List Frame) (meth : Method) (c : Code) (Q : State → Prop) (E : zk_E) (V : zk_V S) (nL : Nat) : Nat → zk_L → List Value → zk_W S → Prop := fun pc L st w =>
  ∀ (H : Heap) (locs : List Loc) (ls : Array Slot), H.size = w.2.1 → zk_R E (V.1 w.1) H → va_S (zk_A E) s.heap H locs → zk_lv ls nL L → W p l e R s m args below meth c H locs w.2.2.1 w.2.2.2 Q (F0 m pc ls st)
/-- a return, as the claim of the method wants it -/
def zk_Ret (p : Program) (l : Launch) (e : Env) (R : Room) (s : State) (m : MethodId) (args : Array Value) (below : List Frame) (meth : Method) (c : Code) (Q : State → Prop) (E : zk_E) (V : zk_V S) (M : zk_M) (P : zk_P S) (cc : ByteArray) : Prop :=
  ∀ (v : Option Value) (w : zk_W S) (pc : Nat) (st : List Value) (H : Heap) (locs : List Loc) (ls : Array Slot), P v w.1 w.2.1 → w.2.2.1 ≤ M.2.2.2.1.2.1 → w.2.2.2 ≤ M.2.2.2.1.2.2 → H.size = w.2.1 → zk_R E (V.1 w.1) H → va_S (zk_A E) s.heap H locs →
    ((∃ x, v = some (.int x) ∧ st = [.int x] ∧ decode cc pc = .ok (.ireturn, 1) ∧ zk_nok M.2.2.2.1.1 x) ∨ (∃ x, v = some (.long x) ∧ st = [.long x] ∧ decode cc pc = .ok (.lreturn, 1) ∧ M.2.2.2.1.1 = some .long) ∨ (∃ x, v = some (.double x) ∧ st = [.double x] ∧ decode cc pc = .ok (.dreturn, 1) ∧ M.2.2.2.1.1 = some .double) ∨ (∃ x, v = some x ∧ st = [x] ∧ decode cc pc = .ok (.areturn, 1) ∧ zk_isr x ∧ ∃ rt, M.2.2.2.1.1 = some rt ∧ ((∃ n, rt = .object n) ∨ ∃ t, rt = .array t)) ∨ (v = none ∧ st = [] ∧ decode cc pc = .ok (.return_, 1) ∧ M.2.2.2.1.1 = none)) →
    W p l e R s m args below meth c H locs w.2.2.1 w.2.2.2 Q (F0 m pc ls st)
theorem zk_dec {i : Instr} {len n : Nat} {pc : Nat} (hd : decode cc pc = .ok (i, len)) (hl : zk_lenof i = 0 ∨ len = zk_lenof i) (hn : zk_lenof i = n) (h0 : ¬ n = 0) : decode cc pc = .ok (i, n) := by
  rcases hl with hl | hl
  · exact absurd (hn.symm.trans hl) h0
  · rw [← hn, ← hl]; exact hd
set_option maxHeartbeats 4000000 in
theorem zk_ins_ok (hx : p.tables.exec = Jvm.exec) (hb : c.code = cc) (hts : ∀ w ∈ zk_WS, w.before args s = true) (hown : s.vm.findClass own = some m.cls) (hk : zk_K E s) (hA : ∀ q, s.heap.size ≤ q → zk_A E q) (hV : zk_VK E V) (hR : M.2.2.2.1.2.1 ≤ R.cells ∧ M.2.2.2.1.2.2 ≤ R.slots) (hM : zk_MO own cc (meth.name = "<init>") M) (hret : zk_Ret p l e R s m args below meth c Q E V M P cc)
    {K : Nat → zk_L → List Value → zk_W S → Prop} (hK : ∀ pc L st w, K pc L st w → zk_G p l e R s m args below meth c Q E V nL pc L st w)
    {pc : Nat} {i : Instr} {L : zk_L} {st : List Value} {w : zk_W S} (hi : M.1 pc = some i) (h : zk_ins E V M P pc i L st w K) : zk_G p l e R s m args below meth c Q E V nL pc L st w := by
  intro H locs ls hz hr hS hl
  obtain ⟨len, hd, hlen⟩ := hM.1 pc i hi
  cases i with
  | iload_n k =>
    dsimp only [zk_ins] at h
    replace hd := zk_dec (n := 1) hd hlen rfl (by decide)
    split at h
    · rename_i x e1
      exact lv_iload_n hx hb hd rfl (hl.2.2.2 _ _ e1) (hK _ _ _ _ h H locs ls hz hr hS hl)
    · exact h.elim
  | iload k =>
    dsimp only [zk_ins] at h
    replace hd := zk_dec (n := 2) hd hlen rfl (by decide)
    split at h
    · rename_i x e1
      exact lv_iload hx hb hd (hl.2.2.2 _ _ e1) (hK _ _ _ _ h H locs ls hz hr hS hl)
    · exact h.elim
  | lload_n k =>
    dsimp only [zk_ins] at h
    replace hd := zk_dec (n := 1) hd hlen rfl (by decide)
    split at h
    · rename_i x e1
      exact lv_lload_n hx hb hd rfl (hl.2.2.2 _ _ e1) (hK _ _ _ _ h H locs ls hz hr hS hl)
    · exact h.elim
  | lload k =>
    dsimp only [zk_ins] at h
    replace hd := zk_dec (n := 2) hd hlen rfl (by decide)
    split at h
    · rename_i x e1
      exact lv_lload hx hb hd (hl.2.2.2 _ _ e1) (hK _ _ _ _ h H locs ls hz hr hS hl)
    · exact h.elim
  | dload_n k =>
    dsimp only [zk_ins] at h
    replace hd := zk_dec (n := 1) hd hlen rfl (by decide)
    split at h
    · rename_i x e1
      exact lv_dload_n hx hb hd rfl (hl.2.2.2 _ _ e1) (hK _ _ _ _ h H locs ls hz hr hS hl)
    · exact h.elim
  | dload k =>
    dsimp only [zk_ins] at h
    replace hd := zk_dec (n := 2) hd hlen rfl (by decide)
    split at h
    · rename_i x e1
      exact lv_dload hx hb hd (hl.2.2.2 _ _ e1) (hK _ _ _ _ h H locs ls hz hr hS hl)
    · exact h.elim
  | aload_n k =>
    dsimp only [zk_ins] at h
    replace hd := zk_dec (n := 1) hd hlen rfl (by decide)
    split at h
    · rename_i v e1
      obtain ⟨h1, h⟩ := h
      rcases zk_isr_cases h1 with rfl | ⟨a, rfl⟩
      · exact lv_aload_nN hx hb hd rfl (hl.2.2.2 _ _ e1) (hK _ _ _ _ h H locs ls hz hr hS hl)
      · exact lv_aload_n hx hb hd rfl (hl.2.2.2 _ _ e1) (hK _ _ _ _ h H locs ls hz hr hS hl)
    · exact h.elim
  | aload k =>
    dsimp only [zk_ins] at h
    replace hd := zk_dec (n := 2) hd hlen rfl (by decide)
    split at h
    · rename_i v e1
      obtain ⟨h1, h⟩ := h
      rcases zk_isr_cases h1 with rfl | ⟨a, rfl⟩
      · exact lv_aloadN hx hb hd (hl.2.2.2 _ _ e1) (hK _ _ _ _ h H locs ls hz hr hS hl)
      · exact lv_aload hx hb hd (hl.2.2.2 _ _ e1) (hK _ _ _ _ h H locs ls hz hr hS hl)
    · exact h.elim
  | istore_n k =>
    dsimp only [zk_ins] at h
    replace hd := zk_dec (n := 1) hd hlen rfl (by decide)
    split at h
    · split at h
      · rename_i L2 e1
        exact lv_istore_n hx hb hd rfl hl.has (by have := (zk_st1_ok e1).2.1; have := hl.2.1; omega) rfl (fun ls2 h2 => hK _ _ _ _ h H locs ls2 hz hr hS (hl.of1 e1 h2))
      · exact h.elim
    · exact h.elim
  | istore k =>
    dsimp only [zk_ins] at h
    replace hd := zk_dec (n := 2) hd hlen rfl (by decide)
    split at h
    · split at h
      · rename_i L2 e1
        exact lv_istore hx hb hd hl.has (by have := (zk_st1_ok e1).2.1; have := hl.2.1; omega) rfl (fun ls2 h2 => hK _ _ _ _ h H locs ls2 hz hr hS (hl.of1 e1 h2))
      · exact h.elim
    · exact h.elim
  | lstore_n k =>
    dsimp only [zk_ins] at h
    replace hd := zk_dec (n := 1) hd hlen rfl (by decide)
    split at h
    · split at h
      · rename_i L2 e1
        exact lv_lstore_n hx hb hd rfl hl.has (by have := (zk_st2_ok e1).2.1; have := hl.2.1; omega) rfl (fun ls2 h2 => hK _ _ _ _ h H locs ls2 hz hr hS (hl.of2 e1 h2))
      · exact h.elim
    · exact h.elim
  | lstore k =>
    dsimp only [zk_ins] at h
    replace hd := zk_dec (n := 2) hd hlen rfl (by decide)
    split at h
    · split at h
      · rename_i L2 e1
        exact lv_lstore hx hb hd hl.has (by have := (zk_st2_ok e1).2.1; have := hl.2.1; omega) rfl (fun ls2 h2 => hK _ _ _ _ h H locs ls2 hz hr hS (hl.of2 e1 h2))
      · exact h.elim
    · exact h.elim
  | dstore_n k =>
    dsimp only [zk_ins] at h
    replace hd := zk_dec (n := 1) hd hlen rfl (by decide)
    split at h
    · split at h
      · rename_i L2 e1
        exact lv_dstore_n hx hb hd rfl hl.has (by have := (zk_st2_ok e1).2.1; have := hl.2.1; omega) rfl (fun ls2 h2 => hK _ _ _ _ h H locs ls2 hz hr hS (hl.of2 e1 h2))
      · exact h.elim
    · exact h.elim
  | dstore k =>
    dsimp only [zk_ins] at h
    replace hd := zk_dec (n := 2) hd hlen rfl (by decide)
    split at h
    · split at h
      · rename_i L2 e1
        exact lv_dstore hx hb hd hl.has (by have := (zk_st2_ok e1).2.1; have := hl.2.1; omega) rfl (fun ls2 h2 => hK _ _ _ _ h H locs ls2 hz hr hS (hl.of2 e1 h2))
      · exact h.elim
    · exact h.elim
  | astore_n k =>
    dsimp only [zk_ins] at h
    replace hd := zk_dec (n := 1) hd hlen rfl (by decide)
    split at h
    · obtain ⟨h1, h⟩ := h
      split at h
      · rename_i L2 e1
        rcases zk_isr_cases h1 with rfl | ⟨a, rfl⟩
        · exact lv_astore_nN hx hb hd rfl hl.has (by have := (zk_st1_ok e1).2.1; have := hl.2.1; omega) rfl (fun ls2 h2 => hK _ _ _ _ h H locs ls2 hz hr hS (hl.of1 e1 h2))
        · exact lv_astore_n hx hb hd rfl hl.has (by have := (zk_st1_ok e1).2.1; have := hl.2.1; omega) rfl (fun ls2 h2 => hK _ _ _ _ h H locs ls2 hz hr hS (hl.of1 e1 h2))
      · exact h.elim
    · exact h.elim
  | astore k =>
    dsimp only [zk_ins] at h
    replace hd := zk_dec (n := 2) hd hlen rfl (by decide)
    split at h
    · obtain ⟨h1, h⟩ := h
      split at h
      · rename_i L2 e1
        rcases zk_isr_cases h1 with rfl | ⟨a, rfl⟩
        · exact lv_astoreN hx hb hd hl.has (by have := (zk_st1_ok e1).2.1; have := hl.2.1; omega) rfl (fun ls2 h2 => hK _ _ _ _ h H locs ls2 hz hr hS (hl.of1 e1 h2))
        · exact lv_astore hx hb hd hl.has (by have := (zk_st1_ok e1).2.1; have := hl.2.1; omega) rfl (fun ls2 h2 => hK _ _ _ _ h H locs ls2 hz hr hS (hl.of1 e1 h2))
      · exact h.elim
    · exact h.elim
  | iconst n =>
    dsimp only [zk_ins] at h
    replace hd := zk_dec (n := 1) hd hlen rfl (by decide)
    exact lv_iconst hx hb hd rfl (hK _ _ _ _ h H locs ls hz hr hS hl)
  | bipush n =>
    dsimp only [zk_ins] at h
    replace hd := zk_dec (n := 2) hd hlen rfl (by decide)
    exact lv_bipush hx hb hd rfl (hK _ _ _ _ h H locs ls hz hr hS hl)
  | sipush n =>
    dsimp only [zk_ins] at h
    replace hd := zk_dec (n := 3) hd hlen rfl (by decide)
    exact lv_sipush hx hb hd rfl (hK _ _ _ _ h H locs ls hz hr hS hl)
  | lconst n =>
    dsimp only [zk_ins] at h
    replace hd := zk_dec (n := 1) hd hlen rfl (by decide)
    exact lv_lconst hx hb hd rfl (hK _ _ _ _ h H locs ls hz hr hS hl)
  | dconst n =>
    dsimp only [zk_ins] at h
    replace hd := zk_dec (n := 1) hd hlen rfl (by decide)
    split at h
    · exact lv_dconst0 hx hb hd (hK _ _ _ _ h H locs ls hz hr hS hl)
    · exact h.elim
  | aconst_null =>
    dsimp only [zk_ins] at h
    replace hd := zk_dec (n := 1) hd hlen rfl (by decide)
    exact lv_null hx hb hd (hK _ _ _ _ h H locs ls hz hr hS hl)
  | ldc i =>
    dsimp only [zk_ins] at h
    replace hd := zk_dec (n := 2) hd hlen rfl (by decide)
    split at h
    · rename_i v e1
      exact lv_ldc hx hb hown (hts _ ((hM.2.2.2.2.2 i _ e1).1 v rfl)) hd (hK _ _ _ _ h H locs ls hz hr hS hl)
    · exact h.elim
  | ldc_w i =>
    dsimp only [zk_ins] at h
    replace hd := zk_dec (n := 3) hd hlen rfl (by decide)
    split at h
    · rename_i v e1
      exact lv_ldcw hx hb hown (hts _ ((hM.2.2.2.2.2 i _ e1).1 v rfl)) hd (hK _ _ _ _ h H locs ls hz hr hS hl)
    · exact h.elim
  | ldc2_w i =>
    dsimp only [zk_ins] at h
    replace hd := zk_dec (n := 3) hd hlen rfl (by decide)
    split at h
    · rename_i v e1
      exact lv_ldc2 hx hb hown (hts _ ((hM.2.2.2.2.2 i _ e1).2 v rfl)) hd (hK _ _ _ _ h H locs ls hz hr hS hl)
    · exact h.elim
  | iadd =>
    dsimp only [zk_ins] at h
    replace hd := zk_dec (n := 1) hd hlen rfl (by decide)
    split at h
    · exact lv_iadd hx hb hd (hK _ _ _ _ h H locs ls hz hr hS hl)
    · exact h.elim
  | isub =>
    dsimp only [zk_ins] at h
    replace hd := zk_dec (n := 1) hd hlen rfl (by decide)
    split at h
    · exact lv_isub hx hb hd (hK _ _ _ _ h H locs ls hz hr hS hl)
    · exact h.elim
  | imul =>
    dsimp only [zk_ins] at h
    replace hd := zk_dec (n := 1) hd hlen rfl (by decide)
    split at h
    · exact lv_imul hx hb hd (hK _ _ _ _ h H locs ls hz hr hS hl)
    · exact h.elim
  | iand =>
    dsimp only [zk_ins] at h
    replace hd := zk_dec (n := 1) hd hlen rfl (by decide)
    split at h
    · exact lv_iand hx hb hd (hK _ _ _ _ h H locs ls hz hr hS hl)
    · exact h.elim
  | ior =>
    dsimp only [zk_ins] at h
    replace hd := zk_dec (n := 1) hd hlen rfl (by decide)
    split at h
    · exact lv_ior hx hb hd (hK _ _ _ _ h H locs ls hz hr hS hl)
    · exact h.elim
  | ishr =>
    dsimp only [zk_ins] at h
    replace hd := zk_dec (n := 1) hd hlen rfl (by decide)
    split at h
    · exact lv_ishr hx hb hd (hK _ _ _ _ h H locs ls hz hr hS hl)
    · exact h.elim
  | idiv =>
    dsimp only [zk_ins] at h
    replace hd := zk_dec (n := 1) hd hlen rfl (by decide)
    split at h
    · obtain ⟨h1, h⟩ := h
      exact lv_idiv hx hb hd h1 (hK _ _ _ _ h H locs ls hz hr hS hl)
    · exact h.elim
  | irem =>
    dsimp only [zk_ins] at h
    replace hd := zk_dec (n := 1) hd hlen rfl (by decide)
    split at h
    · obtain ⟨h1, h⟩ := h
      exact lv_irem hx hb hd h1 (hK _ _ _ _ h H locs ls hz hr hS hl)
    · exact h.elim
  | ladd =>
    dsimp only [zk_ins] at h
    replace hd := zk_dec (n := 1) hd hlen rfl (by decide)
    split at h
    · exact lv_ladd hx hb hd (hK _ _ _ _ h H locs ls hz hr hS hl)
    · exact h.elim
  | lsub =>
    dsimp only [zk_ins] at h
    replace hd := zk_dec (n := 1) hd hlen rfl (by decide)
    split at h
    · exact lv_lsub hx hb hd (hK _ _ _ _ h H locs ls hz hr hS hl)
    · exact h.elim
  | lmul =>
    dsimp only [zk_ins] at h
    replace hd := zk_dec (n := 1) hd hlen rfl (by decide)
    split at h
    · exact lv_lmul hx hb hd (hK _ _ _ _ h H locs ls hz hr hS hl)
    · exact h.elim
  | lcmp =>
    dsimp only [zk_ins] at h
    replace hd := zk_dec (n := 1) hd hlen rfl (by decide)
    split at h
    · exact W.lcmp hx hb hd (hK _ _ _ _ h H locs ls hz hr hS hl)
    · exact h.elim
  | ddiv =>
    dsimp only [zk_ins] at h
    replace hd := zk_dec (n := 1) hd hlen rfl (by decide)
    split at h
    · obtain ⟨h1, h⟩ := h
      exact lv_ddiv hx hb hd h1 (hK _ _ _ _ h H locs ls hz hr hS hl)
    · exact h.elim
  | dcmp op =>
    dsimp only [zk_ins] at h
    replace hd := zk_dec (n := 1) hd hlen rfl (by decide)
    split at h
    · exact lv_dcmp hx hb hd (hK _ _ _ _ h H locs ls hz hr hS hl)
    · exact h.elim
  | ineg =>
    dsimp only [zk_ins] at h
    replace hd := zk_dec (n := 1) hd hlen rfl (by decide)
    split at h
    · exact lv_ineg hx hb hd (hK _ _ _ _ h H locs ls hz hr hS hl)
    · exact h.elim
  | i2l =>
    dsimp only [zk_ins] at h
    replace hd := zk_dec (n := 1) hd hlen rfl (by decide)
    split at h
    · exact lv_i2l hx hb hd rfl (hK _ _ _ _ h H locs ls hz hr hS hl)
    · exact h.elim
  | l2i =>
    dsimp only [zk_ins] at h
    replace hd := zk_dec (n := 1) hd hlen rfl (by decide)
    split at h
    · exact lv_l2i hx hb hd rfl (hK _ _ _ _ h H locs ls hz hr hS hl)
    · exact h.elim
  | i2d =>
    dsimp only [zk_ins] at h
    replace hd := zk_dec (n := 1) hd hlen rfl (by decide)
    split at h
    · exact lv_i2d hx hb hd (hK _ _ _ _ h H locs ls hz hr hS hl)
    · exact h.elim
  | iinc i n =>
    dsimp only [zk_ins] at h
    replace hd := zk_dec (n := 3) hd hlen rfl (by decide)
    split at h
    · rename_i x e1
      split at h
      · rename_i L2 e2
        obtain ⟨k, hk⟩ := List.getElem?_of_mem (zk_prs_mem.mpr e1)
        exact lv_iinc hx hb hd hl.has hk rfl (by have := (zk_st1_ok e2).2.1; have := hl.2.1; omega) rfl (fun ls2 h2 => hK _ _ _ _ h H locs ls2 hz hr hS (hl.of1 e2 h2))
      · exact h.elim
    · exact h.elim
  | dup =>
    dsimp only [zk_ins] at h
    replace hd := zk_dec (n := 1) hd hlen rfl (by decide)
    split at h
    · exact lv_dup hx hb hd h.1 (hK _ _ _ _ h.2 H locs ls hz hr hS hl)
    · exact h.elim
  | pop =>
    dsimp only [zk_ins] at h
    replace hd := zk_dec (n := 1) hd hlen rfl (by decide)
    split at h
    · exact lv_pop hx hb hd h.1 (hK _ _ _ _ h.2 H locs ls hz hr hS hl)
    · exact h.elim
  | dup_x1 =>
    dsimp only [zk_ins] at h
    replace hd := zk_dec (n := 1) hd hlen rfl (by decide)
    split at h
    · exact lv_dup_x1 hx hb hd h.1 h.2.1 (hK _ _ _ _ h.2.2 H locs ls hz hr hS hl)
    · exact h.elim
  | dup2 =>
    dsimp only [zk_ins] at h
    replace hd := zk_dec (n := 1) hd hlen rfl (by decide)
    split at h
    · exact lv_dup2_11 hx hb hd h.1 h.2.1 (hK _ _ _ _ h.2.2 H locs ls hz hr hS hl)
    · exact h.elim
  | goto off =>
    dsimp only [zk_ins] at h
    replace hd := zk_dec (n := 3) hd hlen rfl (by decide)
    split at h
    · rename_i h0
      exact lv_goto hx hb hd (by rw [Int.toNat_of_nonneg (of_decide_eq_true h0)]) (hK _ _ _ _ h H locs ls hz hr hS hl)
    · exact h.elim
  | ifCond cc off =>
    dsimp only [zk_ins] at h
    replace hd := zk_dec (n := 3) hd hlen rfl (by decide)
    split at h
    · unfold zk_if at h
      split at h
      · rename_i h0
        cases cc
        case eq => exact lv_if_eq hx hb hd (by rw [Int.toNat_of_nonneg (of_decide_eq_true h0)]) (fun q => hK _ _ _ _ (h.1 q) H locs ls hz hr hS hl) (fun q => hK _ _ _ _ (h.2 q) H locs ls hz hr hS hl)
        case ne => exact lv_if_ne hx hb hd (by rw [Int.toNat_of_nonneg (of_decide_eq_true h0)]) (fun q => hK _ _ _ _ (h.1 q) H locs ls hz hr hS hl) (fun q => hK _ _ _ _ (h.2 (fun z => z q)) H locs ls hz hr hS hl)
        case lt => exact lv_if_lt hx hb hd (by rw [Int.toNat_of_nonneg (of_decide_eq_true h0)]) (fun q => hK _ _ _ _ (h.1 q) H locs ls hz hr hS hl) (fun q => hK _ _ _ _ (h.2 q) H locs ls hz hr hS hl)
        case ge => exact lv_if_ge hx hb hd (by rw [Int.toNat_of_nonneg (of_decide_eq_true h0)]) (fun q => hK _ _ _ _ (h.1 q) H locs ls hz hr hS hl) (fun q => hK _ _ _ _ (h.2 q) H locs ls hz hr hS hl)
        case gt => exact lv_if_gt hx hb hd (by rw [Int.toNat_of_nonneg (of_decide_eq_true h0)]) (fun q => hK _ _ _ _ (h.1 q) H locs ls hz hr hS hl) (fun q => hK _ _ _ _ (h.2 q) H locs ls hz hr hS hl)
        case le => exact lv_if_le hx hb hd (by rw [Int.toNat_of_nonneg (of_decide_eq_true h0)]) (fun q => hK _ _ _ _ (h.1 q) H locs ls hz hr hS hl) (fun q => hK _ _ _ _ (h.2 q) H locs ls hz hr hS hl)
      · exact h.elim
    · exact h.elim
  | if_icmp cc off =>
    dsimp only [zk_ins] at h
    replace hd := zk_dec (n := 3) hd hlen rfl (by decide)
    split at h
    · unfold zk_if at h
      split at h
      · rename_i h0
        cases cc
        case eq => exact lv_icmp_eq hx hb hd (by rw [Int.toNat_of_nonneg (of_decide_eq_true h0)]) (fun q => hK _ _ _ _ (h.1 q) H locs ls hz hr hS hl) (fun q => hK _ _ _ _ (h.2 q) H locs ls hz hr hS hl)
        case ne => exact lv_icmp_ne hx hb hd (by rw [Int.toNat_of_nonneg (of_decide_eq_true h0)]) (fun q => hK _ _ _ _ (h.1 q) H locs ls hz hr hS hl) (fun q => hK _ _ _ _ (h.2 (fun z => z q)) H locs ls hz hr hS hl)
        case lt => exact lv_icmp_lt hx hb hd (by rw [Int.toNat_of_nonneg (of_decide_eq_true h0)]) (fun q => hK _ _ _ _ (h.1 q) H locs ls hz hr hS hl) (fun q => hK _ _ _ _ (h.2 q) H locs ls hz hr hS hl)
        case ge => exact lv_icmp_ge hx hb hd (by rw [Int.toNat_of_nonneg (of_decide_eq_true h0)]) (fun q => hK _ _ _ _ (h.1 q) H locs ls hz hr hS hl) (fun q => hK _ _ _ _ (h.2 q) H locs ls hz hr hS hl)
        case gt => exact lv_icmp_gt hx hb hd (by rw [Int.toNat_of_nonneg (of_decide_eq_true h0)]) (fun q => hK _ _ _ _ (h.1 q) H locs ls hz hr hS hl) (fun q => hK _ _ _ _ (h.2 q) H locs ls hz hr hS hl)
        case le => exact lv_icmp_le hx hb hd (by rw [Int.toNat_of_nonneg (of_decide_eq_true h0)]) (fun q => hK _ _ _ _ (h.1 q) H locs ls hz hr hS hl) (fun q => hK _ _ _ _ (h.2 q) H locs ls hz hr hS hl)
      · exact h.elim
    · exact h.elim
  | if_acmp cc off =>
    dsimp only [zk_ins] at h
    replace hd := zk_dec (n := 3) hd hlen rfl (by decide)
    split at h
    · obtain ⟨h1, h2, h⟩ := h
      obtain ⟨rx, rfl⟩ := zk_isr_rf h1
      obtain ⟨ry, rfl⟩ := zk_isr_rf h2
      unfold zk_if at h
      split at h
      · rename_i h0
        cases cc
        case eq => exact lv_acmp_eq hx hb hd (by rw [Int.toNat_of_nonneg (of_decide_eq_true h0)]) (fun q => hK _ _ _ _ (h.1 (by rw [q])) H locs ls hz hr hS hl) (fun q => hK _ _ _ _ (h.2 (fun z => q (zk_rf_inj z))) H locs ls hz hr hS hl)
        case ne => exact lv_acmp_ne hx hb hd (by rw [Int.toNat_of_nonneg (of_decide_eq_true h0)]) (fun q => hK _ _ _ _ (h.1 (fun z => q (zk_rf_inj z))) H locs ls hz hr hS hl) (fun q => hK _ _ _ _ (h.2 (fun z => z (by rw [q]))) H locs ls hz hr hS hl)
      · exact h.elim
    · exact h.elim
  | ifnull off =>
    dsimp only [zk_ins] at h
    replace hd := zk_dec (n := 3) hd hlen rfl (by decide)
    split at h
    · obtain ⟨h1, h⟩ := h
      unfold zk_if at h
      split at h
      · rename_i h0
        rcases zk_isr_cases h1 with rfl | ⟨a, rfl⟩
        · exact lv_ifnullN hx hb hd (by rw [Int.toNat_of_nonneg (of_decide_eq_true h0)]) (hK _ _ _ _ (h.1 rfl) H locs ls hz hr hS hl)
        · exact lv_ifnull hx hb hd (hK _ _ _ _ (h.2 (fun z => by cases z)) H locs ls hz hr hS hl)
      · exact h.elim
    · exact h.elim
  | ifnonnull off =>
    dsimp only [zk_ins] at h
    replace hd := zk_dec (n := 3) hd hlen rfl (by decide)
    split at h
    · obtain ⟨h1, h⟩ := h
      unfold zk_if at h
      split at h
      · rename_i h0
        rcases zk_isr_cases h1 with rfl | ⟨a, rfl⟩
        · exact lv_ifnonnullN hx hb hd (hK _ _ _ _ (h.2 (fun z => z rfl)) H locs ls hz hr hS hl)
        · exact lv_ifnonnull hx hb hd (by rw [Int.toNat_of_nonneg (of_decide_eq_true h0)]) (hK _ _ _ _ (h.1 (fun z => by cases z)) H locs ls hz hr hS hl)
      · exact h.elim
    · exact h.elim
  | tableswitch df lo hi offs =>
    dsimp only [zk_ins] at h
    split at h
    · split at h
      · rename_i off e1
        split at h
        · rename_i h0
          unfold zk_tab at e1
          split at e1
          · rename_i q
            cases e1
            exact lv_tableOut hx hb hd q (by rw [Int.toNat_of_nonneg (of_decide_eq_true h0)]) (hK _ _ _ _ h H locs ls hz hr hS hl)
          · rename_i q
            exact lv_tableIn hx hb hd (fun z => q (Or.inl z)) (fun z => q (Or.inr z)) e1 (by rw [Int.toNat_of_nonneg (of_decide_eq_true h0)]) (hK _ _ _ _ h H locs ls hz hr hS hl)
        · exact h.elim
      · exact h.elim
    · exact h.elim
  | getfield i =>
    dsimp only [zk_ins] at h
    replace hd := zk_dec (n := 3) hd hlen rfl (by decide)
    split at h
    · rename_i a r
      split at h
      · rename_i q eq1
        exact zk_row_get hx hb hts hown hk.1 hr (fun ci hci => hM.2.1 i q.1 q.2 eq1 ci hci) h hd (fun v h => hK _ _ _ _ h H locs ls hz hr hS hl)
      · exact h.elim
    · exact h.elim
  | putfield i =>
    dsimp only [zk_ins] at h
    replace hd := zk_dec (n := 3) hd hlen rfl (by decide)
    split at h
    · rename_i v a r
      split at h
      · rename_i q eq1
        exact zk_row_put hx hb hts hown hk.1 hr (fun e9 z => (hV.2 _ _ _ _ _ _ e9 z.1).1) hS (fun ci hci => hM.2.2.1 i q.1 q.2.1 q.2.2 eq1 ci hci) h hd (fun ci fs H2 locs2 e9 h hz2 hr2 hS2 => hK _ _ _ _ h.2 H2 locs2 ls (hz2.trans hz) (zk_R.pf hV e9 h.1 hr2) hS2 hl)
      · exact h.elim
    · exact h.elim
  | iaload =>
    dsimp only [zk_ins] at h
    replace hd := zk_dec (n := 1) hd hlen rfl (by decide)
    split at h
    · rename_i i a r
      unfold zk_ild at h
      split at h
      · rename_i c9 n f e1
        obtain ⟨rfl, h2, h⟩ := h
        rcases hr a _ e1 with hat | ⟨-, hw⟩
        · exact va_iald hx hb hk.1 (zk_P1 hat) 0 0 rfl rfl h2 hd (hK _ _ _ _ h H locs ls hz hr hS hl)
        · obtain ⟨cell, g1, g2, g3, g4, g5, g6⟩ := hw
          have hlt : i.toNatClampNeg < n := Nat.not_le.mp fun q => h2 (Or.inr q)
          exact W.iald (v := .int (f i.toNatClampNeg)) hx hb g1 ⟨g3, by rw [g2]; exact (hk.sc n (fun _ => .int 0)).2⟩ g4 (by rw [g5]; exact h2) (g6 _ hlt) rfl rfl hd (hK _ _ _ _ h H locs ls hz hr hS hl)
      · exact h.elim
    · exact h.elim
  | aaload =>
    dsimp only [zk_ins] at h
    replace hd := zk_dec (n := 1) hd hlen rfl (by decide)
    split at h
    · rename_i i a r
      unfold zk_qld at h
      split at h
      · rename_i c9 n f e1
        obtain ⟨h1, h2, h⟩ := h
        have key : ∀ {t0 : Nat} {ty : FieldType}, (zk_tys E)[t0]? = some (c9, ty) → ty.isReference = true → W p l e R s m args below meth c H locs w.2.2.1 w.2.2.2 Q (F0 m pc ls (.int i :: .ref a :: r)) := fun {t0 ty} ht hty => by
          have hlt : i.toNatClampNeg < n := Nat.not_le.mp fun q => h2 (Or.inr q)
          refine W.aald (v := va_rf (f i.toNatClampNeg)) (ty := ty) hx hb (zk_R.one hr e1 rfl 0 _ rfl) ((hk.1.2 t0 _ ht).1 n (fun j => va_rf (f j))) hty (fun q => by cases q) (by show ¬ (i < 0 ∨ (arrV _ _ _).slots.size ≤ _); rw [arrV_size]; exact h2) (by show (arrV _ _ _).slots[_]? = _; rw [arrV_read _ _ hlt]) rfl rfl hd ?_
          show W p l e R s m args below meth c H locs w.2.2.1 w.2.2.2 Q (F0 m (pc + 1) ls (va_rf (f i.toNatClampNeg) :: r))
          cases hq : f i.toNatClampNeg with
          | none => exact hK _ _ _ _ (h.1 hq) H locs ls hz hr hS hl
          | some b => exact hK _ _ _ _ (h.2 b hq) H locs ls hz hr hS hl
        simp only [List.mem_cons, List.not_mem_nil, or_false] at h1
        rcases h1 with rfl | rfl | rfl | rfl | rfl
        · exact key (t0 := 3) rfl rfl
        · exact key (t0 := 4) rfl rfl
        · exact key (t0 := 5) rfl rfl
        · exact key (t0 := 6) rfl rfl
        · exact key (t0 := 7) rfl rfl
      · exact h.elim
    · exact h.elim
  | arraylength =>
    dsimp only [zk_ins] at h
    replace hd := zk_dec (n := 1) hd hlen rfl (by decide)
    split at h
    · rename_i a r
      exact zk_row_len hx hb hk.1 hk.sc hr h hd (fun v h => hK _ _ _ _ h H locs ls hz hr hS hl)
    · exact h.elim
  | iastore =>
    dsimp only [zk_ins] at h
    replace hd := zk_dec (n := 1) hd hlen rfl (by decide)
    split at h
    · rename_i x i a r
      exact zk_row_ist hx hb hk.1 hr (fun e2 z => (hV.1 _ _ _ z.1).1) hS h hd (fun e2 H2 locs2 h hz2 hr2 hS2 => hK _ _ _ _ h.2 H2 locs2 ls (hz2.trans hz) (zk_R.wr hV h.1 hr2) hS2 hl)
    · exact h.elim
  | aastore =>
    dsimp only [zk_ins] at h
    replace hd := zk_dec (n := 1) hd hlen rfl (by decide)
    split at h
    · rename_i v i a r
      exact zk_row_qst hx hb hk hr (fun e2 z => (hV.1 _ _ _ z.1).1) hS h hd (fun e2 H2 locs2 h hz2 hr2 hS2 => hK _ _ _ _ h.2 H2 locs2 ls (hz2.trans hz) (zk_R.wr hV h.1 hr2) hS2 hl)
    · rename_i i a r
      exact zk_row_qsn hx hb hk.1 hr (fun e2 z => (hV.1 _ _ _ z.1).1) hS h hd (fun e2 H2 locs2 h hz2 hr2 hS2 => hK _ _ _ _ h.2 H2 locs2 ls (hz2.trans hz) (zk_R.wr hV h.1 hr2) hS2 hl)
    · exact h.elim
  | new i =>
    dsimp only [zk_ins] at h
    replace hd := zk_dec (n := 3) hd hlen rfl (by decide)
    split at h
    · rename_i ci e1
      obtain ⟨hc, hs, h1, h⟩ := h
      exact zk_row_new hx hb hts hown hk.1 hr hS hA hz (hM.2.2.2.1 i ci e1) (Nat.le_trans hc hR.1) (Nat.le_trans hs hR.2) hd (fun H2 hz2 hr2 hS2 => hK _ _ _ _ h H2 locs ls hz2 (zk_R.wr hV h1 hr2) hS2 hl)
    · exact h.elim
  | newarray t =>
    dsimp only [zk_ins] at h
    replace hd := zk_dec (n := 2) hd hlen rfl (by decide)
    split at h
    · rename_i n r
      obtain ⟨hn, hbig, hc, hs, h⟩ := h
      exact zk_row_newa hx hb hts hown hk.1 hr hS hA hz hn hbig (Nat.le_trans hc hR.1) (Nat.le_trans hs hR.2) h hd (fun e2 H2 h hz2 hr2 hS2 => hK _ _ _ _ h.2 H2 locs ls hz2 (zk_R.wr hV h.1 hr2) hS2 hl)
    · exact h.elim
  | anewarray i =>
    dsimp only [zk_ins] at h
    replace hd := zk_dec (n := 3) hd hlen rfl (by decide)
    split at h
    · rename_i n r
      obtain ⟨hn, hbig, hc, hs, h⟩ := h
      split at h
      · rename_i k e1
        obtain ⟨h1, h⟩ := h
        exact zk_row_newq hx hb hts hown hk hr hS hA hz hn hbig (Nat.le_trans hc hR.1) (Nat.le_trans hs hR.2) (hM.2.2.2.2.1 i k e1) hd (fun H2 hz2 hr2 hS2 => hK _ _ _ _ h H2 locs ls hz2 (zk_R.wr hV h1 hr2) hS2 hl)
      · exact h.elim
    · exact h.elim
  | ireturn =>
    dsimp only [zk_ins] at h
    replace hd := zk_dec (n := 1) hd hlen rfl (by decide)
    split at h
    · rename_i x
      exact hret _ _ _ _ H locs ls h.2.1 h.2.2.1 h.2.2.2 hz hr hS (Or.inl ⟨x, rfl, rfl, hd, h.1⟩)
    · exact h.elim
  | lreturn =>
    dsimp only [zk_ins] at h
    replace hd := zk_dec (n := 1) hd hlen rfl (by decide)
    split at h
    · rename_i x er
      exact hret _ _ _ _ H locs ls h.1 h.2.1 h.2.2 hz hr hS (Or.inr (Or.inl ⟨x, rfl, rfl, hd, er⟩))
    · exact h.elim
  | dreturn =>
    dsimp only [zk_ins] at h
    replace hd := zk_dec (n := 1) hd hlen rfl (by decide)
    split at h
    · rename_i x er
      exact hret _ _ _ _ H locs ls h.1 h.2.1 h.2.2 hz hr hS (Or.inr (Or.inr (Or.inl ⟨x, rfl, rfl, hd, er⟩)))
    · exact h.elim
  | areturn =>
    dsimp only [zk_ins] at h
    replace hd := zk_dec (n := 1) hd hlen rfl (by decide)
    split at h
    · rename_i v o9 er
      exact hret _ _ _ _ H locs ls h.2.1 h.2.2.1 h.2.2.2 hz hr hS (Or.inr (Or.inr (Or.inr (Or.inl ⟨v, rfl, rfl, hd, h.1, _, er, Or.inl ⟨_, rfl⟩⟩))))
    · rename_i v o9 er
      exact hret _ _ _ _ H locs ls h.2.1 h.2.2.1 h.2.2.2 hz hr hS (Or.inr (Or.inr (Or.inr (Or.inl ⟨v, rfl, rfl, hd, h.1, _, er, Or.inr ⟨_, rfl⟩⟩))))
    · exact h.elim
  | return_ =>
    dsimp only [zk_ins] at h
    replace hd := zk_dec (n := 1) hd hlen rfl (by decide)
    split at h
    · rename_i er
      exact hret _ _ _ _ H locs ls h.1 h.2.1 h.2.2 hz hr hS (Or.inr (Or.inr (Or.inr (Or.inr ⟨rfl, rfl, hd, er⟩))))
    · exact h.elim
  | _ => exact h.elim
end ZS
