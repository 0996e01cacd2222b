/-! the core: a method's code, read as a predicate transformer over an abstract heap; held against the kit's W once -/
abbrev zk_Hp : Type := Nat → Option va_E
abbrev zk_L : Type := List (Option Value)
/-- the heap's size at the law's start; the classes' data; the array classes -/
abbrev zk_E : Type := Nat × va_G × (Nat → ClassId)
/-- the state, the heap's size, cells and slots made so far -/
abbrev zk_W (S : Type) : Type := S × Nat × Nat × Nat
/-- a state as a heap, a state with one cell written, when that may be done -/
abbrev zk_V (S : Type) : Type := (S → zk_Hp) × (S → Nat → va_E → S) × (S → Nat → va_E → Prop) × (S → Nat → Nat → Value → S) × (S → Nat → Nat → Value → Prop)
abbrev zk_P (S : Type) : Type := Option Value → S → Nat → Prop
abbrev zk_X (S : Type) : Type := String → S → Nat → Prop
abbrev zk_Sp (S : Type) : Type := List Value → S → Nat → zk_P S → zk_X S → Prop
abbrev zk_Cl (S : Type) : Type := Nat → Option (Nat × Nat × Nat × zk_Sp S)
/-- a method: code, stops, (get, put, new, anewarray, constants), (return type, cells, slots), (throws, handlers, Object.<init>, the limits' copy, Math) -/
abbrev zk_M : Type := (Nat → Option Instr) × (Nat → Bool) × ((Nat → Option (List Nat × Nat)) × (Nat → Option (List Nat × Nat × Nat)) × (Nat → Option Nat) × (Nat → Option Nat) × (Nat → Option Value)) × (Option FieldType × Nat × Nat) × ((Nat → Option String) × (Nat → String → Option Nat) × (Nat → Bool) × (Nat → Bool) × (Nat → Option Nat))
def zk_A (E : zk_E) : Nat → Prop := fun q => E.1 ≤ q
def zk_tys (E : zk_E) : List (ClassId × FieldType) := [(E.2.2 0, .int), (E.2.2 1, .int), (E.2.2 2, .int), (E.2.2 3, .object RX6), (E.2.2 4, .object RX1), (E.2.2 5, .object RX9), (E.2.2 6, .object RX7), (E.2.2 7, .array .int)]
/-- where the law's own heap begins: what lies ahead of it is known less well -/
def zk_bs (E : zk_E) : Nat := min (E.2.2 99) E.1
/-- an array of ints that was there before: its cell has what it wants of a lock and a hash -/
def zk_wk (E : zk_E) (a : Nat) (e : va_E) (H : Heap) : Prop := match e with
  | .inl (_, n, .inl f) => ∃ cell : Cell, H[a]? = some cell ∧ cell.cls = E.2.2 97 ∧ (∀ k, cell.vm ≠ .statics k) ∧ cell.vm ≠ .unknown ∧ cell.slots.size = n ∧ ∀ j, j < n → cell.slots[j]? = some (.int (f j))
  | _ => False
def zk_Rat (E : zk_E) (a : Nat) (e : va_E) (H : Heap) : Prop := va_at E.2.1 vwCl (a, e) H ∨ (a < zk_bs E ∧ zk_wk E a e H)
def zk_R (E : zk_E) (h : zk_Hp) (H : Heap) : Prop := ∀ a e, h a = some e → zk_Rat E a e H
theorem zk_wk.lt {E : zk_E} {a : Nat} {e : va_E} {H : Heap} (h : zk_wk E a e H) : a < H.size := by
  unfold zk_wk at h
  split at h
  · obtain ⟨cell, h1, -⟩ := h
    exact (Array.getElem?_eq_some_iff.mp h1).1
  · exact h.elim
theorem zk_wk.kept {E : zk_E} {a : Nat} {e : va_E} {H H1 : Heap} (h : zk_wk E a e H) (hq : H1[a]? = H[a]?) : zk_wk E a e H1 := by
  unfold zk_wk at h ⊢
  split at h
  · obtain ⟨cell, h1, h2⟩ := h
    exact ⟨cell, hq.trans h1, h2⟩
  · exact h.elim
theorem zk_Rat.lt {E : zk_E} {a : Nat} {e : va_E} {H : Heap} (h : zk_Rat E a e H) : a < H.size := h.elim (fun g => va_at.lt g) (fun g => g.2.lt)
theorem zk_Rat.kept {E : zk_E} {a : Nat} {e : va_E} {H H1 : Heap} (h : zk_Rat E a e H) (hq : H1[a]? = H[a]?) : zk_Rat E a e H1 := h.elim (fun g => Or.inl (g.kept hq)) (fun g => Or.inr ⟨g.1, g.2.kept hq⟩)
theorem zk_Rat.str {E : zk_E} {a : Nat} {e : va_E} {H : Heap} (h : zk_Rat E a e H) (ha : E.1 ≤ a) : va_at E.2.1 vwCl (a, e) H := h.elim id (fun g => absurd (Nat.lt_of_lt_of_le g.1 (Nat.le_trans (Nat.min_le_right _ _) ha)) (Nat.lt_irrefl _))
def zk_int (e : va_E) : Bool := match e with
  | .inl (_, _, .inl _) => true
  | _ => false
theorem zk_Rat.ob {E : zk_E} {a : Nat} {e : va_E} {H : Heap} (h : zk_Rat E a e H) (hn : zk_int e = false) : va_at E.2.1 vwCl (a, e) H := by
  rcases h with h | ⟨-, h⟩
  · exact h
  · unfold zk_wk at h
    split at h
    · cases hn
    · exact h.elim
theorem zk_R.lift {E : zk_E} {n : Nat} {h : zk_Hp} {H : Heap} (hn : E.1 ≤ n) (hr : zk_R E h H) : zk_R (n, E.2) h H := fun a e ha => (hr a e ha).elim Or.inl (fun g => Or.inr ⟨Nat.lt_of_lt_of_le g.1 (by unfold zk_bs; exact Nat.le_min.mpr ⟨Nat.min_le_left _ _, Nat.le_trans (Nat.min_le_right _ _) hn⟩), g.2⟩)
theorem zk_R.drop {E : zk_E} {n : Nat} {h : zk_Hp} {H : Heap} (hb : E.2.2 99 ≤ E.1) (hr : zk_R (n, E.2) h H) : zk_R E h H := fun a e ha => (hr a e ha).elim Or.inl (fun g => Or.inr ⟨Nat.lt_of_lt_of_le g.1 (by unfold zk_bs; exact Nat.le_min.mpr ⟨Nat.min_le_left _ _, Nat.le_trans (Nat.min_le_left _ _) hb⟩), g.2⟩)
def zk_FL : Nat → Int32 := fun i => match i with | 0 => 0 | 1 => 120 | 2 => 8 | 3 => 4 | 4 => 10 | 5 => 12 | 6 => 50 | 7 => 3 | 8 => 60 | _ => 0
def zk_cats (l : List Value) : Nat := (l.map fun v => v.category).sum
-- locals
def zk_lg : zk_L → Nat → Option Value
  | [], _ => none
  | a :: _, 0 => a
  | _ :: l, n + 1 => zk_lg l n
def zk_kl : Option Value → Option Value
  | some (.long _) => none
  | some (.double _) => none
  | o => o
def zk_st1 : zk_L → Nat → Value → Option zk_L
  | [], _, _ => none
  | _ :: l, 0, v => some (some v :: l)
  | a :: l, 1, v => (match l with
    | [] => none
    | _ :: l' => some (zk_kl a :: some v :: l'))
  | a :: l, n + 2, v => (zk_st1 l (n + 1) v).map (fun l' => a :: l')
def zk_st2 : zk_L → Nat → Value → Option zk_L
  | [], _, _ => none
  | _ :: l, 0, v => (match l with
    | [] => none
    | _ :: l' => some (some v :: none :: l'))
  | a :: l, 1, v => (match l with
    | _ :: _ :: l' => some (zk_kl a :: some v :: none :: l')
    | _ => none)
  | a :: l, n + 2, v => (zk_st2 l (n + 1) v).map (fun l' => a :: l')
def zk_lv (ls : Array Slot) (nL : Nat) (L : zk_L) : Prop := ls.size = nL ∧ L.length = nL ∧ lv_wf ls ∧ ∀ i v, zk_lg L i = some v → ls[i]? = some (.val v)
theorem zk_lg_lt : ∀ {L : zk_L} {i : Nat} {v : Value}, zk_lg L i = some v → i < L.length
  | [], _, _, h => by cases h
  | a :: l, 0, _, _ => Nat.succ_pos _
  | _ :: l, n + 1, v, h => Nat.succ_lt_succ (zk_lg_lt (L := l) h)
theorem zk_kl_some {a : Option Value} {w : Value} (h : zk_kl a = some w) : a = some w ∧ ¬ w.category = 2 := by
  cases a with
  | none => cases h
  | some v => cases v <;> simp [zk_kl] at h <;> subst h <;> simp [Value.category]
theorem zk_st1_ok : ∀ {L L' : zk_L} {i : Nat} {v : Value}, zk_st1 L i v = some L' → L'.length = L.length ∧ i < L.length ∧ ∀ j w, zk_lg L' j = some w → (j = i ∧ w = v) ∨ (j ≠ i ∧ zk_lg L j = some w ∧ ¬ (j + 1 = i ∧ w.category = 2))
  | [], _, _, _, h => by cases h
  | a :: l, L', 0, v, h => by
    simp only [zk_st1, Option.some.injEq] at h
    subst h
    refine ⟨rfl, Nat.succ_pos _, fun j w hj => ?_⟩
    cases j with
    | zero => simp only [zk_lg, Option.some.injEq] at hj; exact Or.inl ⟨rfl, hj.symm⟩
    | succ j => exact Or.inr ⟨by omega, hj, by omega⟩
  | [a], L', 1, v, h => by cases h
  | a :: b :: l, L', 1, v, h => by
    simp only [zk_st1, Option.some.injEq] at h
    subst h
    refine ⟨rfl, by simp, fun j w hj => ?_⟩
    match j, hj with
    | 0, hj =>
      obtain ⟨h1, h2⟩ := zk_kl_some hj
      exact Or.inr ⟨by omega, h1, fun q => h2 q.2⟩
    | 1, hj => simp only [zk_lg, Option.some.injEq] at hj; exact Or.inl ⟨rfl, hj.symm⟩
    | j + 2, hj => exact Or.inr ⟨by omega, hj, by omega⟩
  | a :: l, L', n + 2, v, h => by
    simp only [zk_st1, Option.map_eq_some_iff] at h
    obtain ⟨l', h1, rfl⟩ := h
    obtain ⟨e1, e2, e3⟩ := zk_st1_ok h1
    refine ⟨by simp [e1], by simp; omega, fun j w hj => ?_⟩
    cases j with
    | zero => exact Or.inr ⟨by omega, hj, by omega⟩
    | succ j =>
      rcases e3 j w hj with ⟨q1, q2⟩ | ⟨q1, q2, q3⟩
      · exact Or.inl ⟨by omega, q2⟩
      · exact Or.inr ⟨by omega, q2, fun z => q3 ⟨by omega, z.2⟩⟩
theorem zk_st2_ok : ∀ {L L' : zk_L} {i : Nat} {v : Value}, zk_st2 L i v = some L' → L'.length = L.length ∧ i + 1 < L.length ∧ ∀ j w, zk_lg L' j = some w → (j = i ∧ w = v) ∨ (j ≠ i ∧ j ≠ i + 1 ∧ zk_lg L j = some w ∧ ¬ (j + 1 = i ∧ w.category = 2))
  | [], _, _, _, h => by cases h
  | [a], L', 0, v, h => by cases h
  | a :: b :: l, L', 0, v, h => by
    simp only [zk_st2, Option.some.injEq] at h
    subst h
    refine ⟨rfl, by simp, fun j w hj => ?_⟩
    match j, hj with
    | 0, hj => simp only [zk_lg, Option.some.injEq] at hj; exact Or.inl ⟨rfl, hj.symm⟩
    | 1, hj => cases hj
    | j + 2, hj => exact Or.inr ⟨by omega, by omega, hj, by omega⟩
  | [a], L', 1, v, h => by cases h
  | [a, b], L', 1, v, h => by cases h
  | a :: b :: c :: l, L', 1, v, h => by
    simp only [zk_st2, Option.some.injEq] at h
    subst h
    refine ⟨rfl, by simp, fun j w hj => ?_⟩
    match j, hj with
    | 0, hj =>
      obtain ⟨h1, h2⟩ := zk_kl_some hj
      exact Or.inr ⟨by omega, by omega, h1, fun q => h2 q.2⟩
    | 1, hj => simp only [zk_lg, Option.some.injEq] at hj; exact Or.inl ⟨rfl, hj.symm⟩
    | 2, hj => cases hj
    | j + 3, hj => exact Or.inr ⟨by omega, by omega, hj, by omega⟩
  | a :: l, L', n + 2, v, h => by
    simp only [zk_st2, Option.map_eq_some_iff] at h
    obtain ⟨l', h1, rfl⟩ := h
    obtain ⟨e1, e2, e3⟩ := zk_st2_ok h1
    refine ⟨by simp [e1], by simp; omega, fun j w hj => ?_⟩
    cases j with
    | zero => exact Or.inr ⟨by omega, by omega, hj, by omega⟩
    | succ j =>
      rcases e3 j w hj with ⟨q1, q2⟩ | ⟨q1, q2, q3, q4⟩
      · exact Or.inl ⟨by omega, q2⟩
      · exact Or.inr ⟨by omega, by omega, q3, fun z => q4 ⟨by omega, z.2⟩⟩
/-- all that is told of the locals, as a list of places -/
def zk_prs (L : zk_L) : List (Nat × Value) := (List.range L.length).filterMap (fun i => (zk_lg L i).map (fun v => (i, v)))
theorem zk_prs_mem {L : zk_L} {i : Nat} {v : Value} : (i, v) ∈ zk_prs L ↔ zk_lg L i = some v := by
  simp only [zk_prs, List.mem_filterMap, List.mem_range, Option.map_eq_some_iff]
  constructor
  · rintro ⟨j, -, w, h, e⟩
    cases e
    exact h
  · intro h
    exact ⟨i, zk_lg_lt h, v, h, rfl⟩
theorem zk_lv.has {ls : Array Slot} {nL : Nat} {L : zk_L} (h : zk_lv ls nL L) : lv_has ls nL (zk_prs L) := ⟨h.1, h.2.2.1, fun q hq => h.2.2.2 q.1 q.2 (zk_prs_mem.mp hq)⟩
theorem zk_lv.of1 {ls ls' : Array Slot} {nL i : Nat} {L L' : zk_L} {v : Value} (h : zk_lv ls nL L) (hs : zk_st1 L i v = some L') (h' : lv_has ls' nL ((i, v) :: (zk_prs L).filter (fun q => !(q.1 == i) && !(q.1 + 1 == i && q.2.category == 2)))) : zk_lv ls' nL L' := by
  obtain ⟨e1, e2, e3⟩ := zk_st1_ok hs
  refine ⟨h'.1, e1.trans h.2.1, h'.2.1, fun j w hj => ?_⟩
  rcases e3 j w hj with ⟨rfl, rfl⟩ | ⟨q1, q2, q3⟩
  · exact h'.2.2 _ List.mem_cons_self
  · refine h'.2.2 (j, w) (List.mem_cons_of_mem _ (List.mem_filter.mpr ⟨zk_prs_mem.mpr q2, ?_⟩))
    simp only [Bool.and_eq_true, Bool.not_eq_true', beq_eq_false_iff_ne, ne_eq, Bool.and_eq_false_iff]
    refine ⟨q1, ?_⟩
    by_cases z : j + 1 = i
    · exact Or.inr (fun y => q3 ⟨z, y⟩)
    · exact Or.inl z
theorem zk_lv.of2 {ls ls' : Array Slot} {nL i : Nat} {L L' : zk_L} {v : Value} (h : zk_lv ls nL L) (hs : zk_st2 L i v = some L') (h' : lv_has ls' nL ((i, v) :: (zk_prs L).filter (fun q => !(q.1 == i) && (!(q.1 == i + 1) && !(q.1 + 1 == i && q.2.category == 2))))) : zk_lv ls' nL L' := by
  obtain ⟨e1, e2, e3⟩ := zk_st2_ok hs
  refine ⟨h'.1, e1.trans h.2.1, h'.2.1, fun j w hj => ?_⟩
  rcases e3 j w hj with ⟨rfl, rfl⟩ | ⟨q1, q0, q2, q3⟩
  · exact h'.2.2 _ List.mem_cons_self
  · refine h'.2.2 (j, w) (List.mem_cons_of_mem _ (List.mem_filter.mpr ⟨zk_prs_mem.mpr q2, ?_⟩))
    simp only [Bool.and_eq_true, Bool.not_eq_true', beq_eq_false_iff_ne, ne_eq, Bool.and_eq_false_iff]
    refine ⟨q1, q0, ?_⟩
    by_cases z : j + 1 = i
    · exact Or.inr (fun y => q3 ⟨z, y⟩)
    · exact Or.inl z
-- the pure rows
def zk_nth : List Value → Nat → (Value → Prop) → Prop
  | [], _, _ => False
  | v :: _, 0, F => F v
  | _ :: l, n + 1, F => zk_nth l n F
theorem zk_nth_some : ∀ {l : List Value} {k : Nat} {F : Value → Prop}, zk_nth l k F → ∃ v, l[k]? = some v ∧ F v
  | [], _, _, h => h.elim
  | v :: _, 0, _, h => ⟨v, rfl, h⟩
  | _ :: l, n + 1, F, h => by
    obtain ⟨v, h1, h2⟩ := zk_nth_some (l := l) (k := n) h
    exact ⟨v, by simpa using h1, h2⟩
def zk_fld (o : Option va_E) (cs : List Nat) (k : Nat) (F : Value → Prop) : Prop := match o with
  | some (.inr (ci, fs)) => ci ∈ cs ∧ zk_nth fs k F
  | _ => False
def zk_ty (ci k : Nat) : FieldType := match ci with
  | 0 => tyX0 k | 1 => tyX1 k | 2 => tyX3 k | 3 => tyX4 k | 4 => tyX5 k | 5 => tyX6 k | 6 => tyX7 k | 7 => tyX8 k | 8 => tyX8 k | 9 => tyX10 k | _ => tyX11 k
def zk_new (ci : Nat) : List Value := match ci with
  | 0 => [.null, .null]
  | 1 => [.null, .null, .int 0, .int 0, .int 0, .int 0, .int 0, .null]
  | 2 => [.null, .null, .null, .int 0]
  | 3 => [.int 0, .int 0, .int 0, .int 0, .int 0]
  | 4 => [.null, .null, .null, .null, .null, .int 0, .int 0, .int 0, .int 0]
  | 5 => [.int 0, .int 0, .int 0, .int 0, .int 0, .int 0, .int 0, .int 0]
  | 6 => [.null, .null, .int 0, .int 0, .int 0, .int 0, .int 0]
  | 7 => [.null, .null, .null, .null, .null, .null, .null]
  | 8 => [.null, .null, .null, .null, .null, .null, .null]
  | 9 => [.null, .null, .null, .null, .int 0]
  | _ => [.null, .null, .int 0, .int 0, .null, .int 0, .null, .int 0, .null, .int 0, .null, .null]
/-- what may be written into a field: 0 an int, 1 a boolean, 2 a reference -/
def zk_fok (tag : Nat) (v : Value) : Prop := match tag with
  | 0 => (match v with
    | .int _ => True
    | _ => False)
  | 1 => (match v with
    | .int x => x = 0 ∨ x = 1
    | _ => False)
  | _ => (match v with
    | .ref _ => True
    | .null => True
    | _ => False)
def zk_tag (ty : FieldType) (tag : Nat) : Bool := match ty with
  | .int => tag == 0
  | .boolean => tag == 1
  | .object _ => tag == 2
  | .array _ => tag == 2
  | _ => false
def zk_put (o : Option va_E) (cs : List Nat) (k tag : Nat) (v : Value) (F : Prop) : Prop := match o with
  | some (.inr (ci, fs)) => ci ∈ cs ∧ zk_fok tag v ∧ k < fs.length ∧ F
  | _ => False
theorem zk_fok_ok {ty : FieldType} {tag : Nat} {v : Value} (h : zk_tag ty tag = true) (hv : zk_fok tag v) : narrow ty v = v ∧ fits ty v = true := by
  cases ty with
  | int =>
    simp only [zk_tag, beq_iff_eq] at h
    subst h
    cases v <;> first | exact hv.elim | exact ⟨rfl, rfl⟩
  | boolean =>
    simp only [zk_tag, beq_iff_eq] at h
    subst h
    cases v with
    | int x =>
      rcases hv with rfl | rfl
      · exact ⟨rfl, rfl⟩
      · exact ⟨rfl, rfl⟩
    | _ => exact hv.elim
  | object n =>
    simp only [zk_tag, beq_iff_eq] at h
    subst h
    cases v <;> first | exact hv.elim | exact ⟨rfl, rfl⟩
  | array t =>
    simp only [zk_tag, beq_iff_eq] at h
    subst h
    cases v <;> first | exact hv.elim | exact ⟨rfl, rfl⟩
  | _ => simp [zk_tag] at h
def zk_ild (o : Option va_E) (cA : ClassId) (i : Int32) (F : Int32 → Prop) : Prop := match o with
  | some (.inl (c, n, .inl f)) => c = cA ∧ vp_in i n ∧ F (f i.toNatClampNeg)
  | _ => False
def zk_qld (o : Option va_E) (i : Int32) (tys : List ClassId) (F : Option Nat → Prop) : Prop := match o with
  | some (.inl (c, n, .inr (.inr (.inr (.inr f))))) => c ∈ tys ∧ vp_in i n ∧ F (f i.toNatClampNeg)
  | _ => False
def zk_ist (o : Option va_E) (cA : ClassId) (i x : Int32) (F : va_E → Prop) : Prop := match o with
  | some (.inl (c, n, .inl f)) => c = cA ∧ vp_in i n ∧ F (.inl (c, n, .inl (upd f i.toNatClampNeg x)))
  | _ => False
/-- which array class holds which objects -/
def zk_qc (E : zk_E) (c : ClassId) (ci : Nat) : Prop := (c = E.2.2 3 ∧ ci = 5) ∨ (c = E.2.2 4 ∧ ci = 1) ∨ (c = E.2.2 6 ∧ ci = 6)
def zk_qst (E : zk_E) (o ov : Option va_E) (i : Int32) (v : Nat) (F : va_E → Prop) : Prop := match o, ov with
  | some (.inl (c, n, .inr (.inr (.inr (.inr f))))), some (.inr (ci, _)) => zk_qc E c ci ∧ vp_in i n ∧ F (.inl (c, n, .inr (.inr (.inr (.inr (va_up f i.toNatClampNeg (some v)))))))
  | some (.inl (c, n, .inr (.inr (.inr (.inr f))))), some (.inl (c2, _, .inl _)) => (c = E.2.2 7 ∧ c2 = E.2.2 0) ∧ E.1 + 28 ≤ v ∧ vp_in i n ∧ F (.inl (c, n, .inr (.inr (.inr (.inr (va_up f i.toNatClampNeg (some v)))))))
  | _, _ => False
def zk_len (o : Option va_E) (F : Int32 → Prop) : Prop := match o with
  | some (.inl (_, x)) => F (Int32.ofNat x.1)
  | _ => False
def zk_if (pc : Nat) (off : Int) (c : Prop) (kt : Nat → Prop) (kf : Prop) : Prop := match decide (0 ≤ (pc : Int) + off) with
  | true => (c → kt ((pc : Int) + off).toNat) ∧ (¬ c → kf)
  | false => False
def zk_tab (dflt lo hi : Int) (offs : Array Int) (x : Int32) : Option Int := if x.toInt < lo ∨ hi < x.toInt then some dflt else offs[(x.toInt - lo).toNat]?
def zk_psh : Option Value → List Value → List Value
  | some v, st => v :: st
  | none, st => st
def zk_ar (E : zk_E) (k : Nat) : ClassId := E.2.2 k
