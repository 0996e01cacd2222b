/-! one step, as a predicate transformer -/
def zk_isr (v : Value) : Prop := match v with
  | .ref _ => True
  | .null => True
  | _ => False
def zk_c1 (v : Value) : Prop := v.category = 1
theorem zk_isr_cases {v : Value} (h : zk_isr v) : v = .null ∨ ∃ a, v = .ref a := by
  cases v <;> first | exact Or.inl rfl | exact Or.inr ⟨_, rfl⟩ | exact h.elim
theorem zk_isr_rf {v : Value} (h : zk_isr v) : ∃ r : Option Nat, v = va_rf r := by
  rcases zk_isr_cases h with rfl | ⟨a, rfl⟩
  · exact ⟨none, rfl⟩
  · exact ⟨some a, rfl⟩
theorem zk_rf_isr (r : Option Nat) : zk_isr (va_rf r) := by cases r <;> trivial
theorem zk_rf_inj {a b : Option Nat} (h : va_rf a = va_rf b) : a = b := by
  cases a <;> cases b <;> simp [va_rf] at h <;> first | rfl | (rw [h])
def zk_lenq (E : zk_E) (o : Option va_E) (F : Int32 → Prop) : Prop := match o with
  | some (.inl (c, x)) => c ∈ [zk_ar E 0, zk_ar E 3, zk_ar E 4, zk_ar E 5, zk_ar E 6, zk_ar E 7] ∧ F (Int32.ofNat x.1)
  | _ => False
/-- a new array of numbers -/
def zk_nar (E : zk_E) (t : ArrayType) (n : Nat) (F : va_E → Prop) : Prop := match t with
  | .int => F (.inl (E.2.2 0, n, .inl (fun _ => 0)))
  | _ => False
def zk_nqr (E : zk_E) (k n : Nat) : va_E := .inl (E.2.2 k, n, .inr (.inr (.inr (.inr (fun _ => none)))))
def zk_qsn (o : Option va_E) (i : Int32) (tys : List ClassId) (F : va_E → Prop) : Prop := match o with
  | some (.inl (c, n, .inr (.inr (.inr (.inr f))))) => c ∈ tys ∧ vp_in i n ∧ F (.inl (c, n, .inr (.inr (.inr (.inr (va_up f i.toNatClampNeg none))))))
  | _ => False
def zk_nok (ret : Option FieldType) (x : Int32) : Prop := match ret with
  | some ty => narrow ty (.int x) = .int x
  | none => False
def zk_lenof : Instr → Nat
  | .iload_n _ => 1
  | .iload _ => 2
  | .lload_n _ => 1
  | .lload _ => 2
  | .dload_n _ => 1
  | .dload _ => 2
  | .aload_n _ => 1
  | .aload _ => 2
  | .istore_n _ => 1
  | .istore _ => 2
  | .lstore_n _ => 1
  | .lstore _ => 2
  | .dstore_n _ => 1
  | .dstore _ => 2
  | .astore_n _ => 1
  | .astore _ => 2
  | .iconst _ => 1
  | .bipush _ => 2
  | .sipush _ => 3
  | .lconst _ => 1
  | .dconst _ => 1
  | .aconst_null => 1
  | .ldc _ => 2
  | .ldc_w _ => 3
  | .ldc2_w _ => 3
  | .iadd => 1
  | .isub => 1
  | .imul => 1
  | .iand => 1
  | .ior => 1
  | .ishr => 1
  | .idiv => 1
  | .irem => 1
  | .ladd => 1
  | .lsub => 1
  | .lmul => 1
  | .lcmp => 1
  | .ddiv => 1
  | .dcmp _ => 1
  | .ineg => 1
  | .i2l => 1
  | .l2i => 1
  | .i2d => 1
  | .iinc _ _ => 3
  | .dup => 1
  | .pop => 1
  | .dup_x1 => 1
  | .dup2 => 1
  | .goto _ => 3
  | .ifCond _ _ => 3
  | .if_icmp _ _ => 3
  | .if_acmp _ _ => 3
  | .ifnull _ => 3
  | .ifnonnull _ => 3
  | .getfield _ => 3
  | .putfield _ => 3
  | .iaload => 1
  | .aaload => 1
  | .arraylength => 1
  | .iastore => 1
  | .aastore => 1
  | .new _ => 3
  | .newarray _ => 2
  | .anewarray _ => 3
  | .ireturn => 1
  | .lreturn => 1
  | .dreturn => 1
  | .areturn => 1
  | .return_ => 1
  | _ => 0
def i_min (x y : Int32) : Int32 := if y < x then y else x
def i_max (x y : Int32) : Int32 := if x < y then y else x
def i_abs (x : Int32) : Int32 := if 0 ≤ x then x else 0 - x
def l_min (x y : Int64) : Int64 := if y < x then y else x
def l_max (x y : Int64) : Int64 := if y < x then x else y
section ZI
variable {S : Type} (E : zk_E) (V : zk_V S) (M : zk_M) (C : zk_Cl S) (P : zk_P S) (PX : zk_X S)
def zk_ins (pc : Nat) (i : Instr) (L : zk_L) (st : List Value) (w : zk_W S) (K : Nat → zk_L → List Value → zk_W S → Prop) : Prop := match i with
  | .iload_n k => (match zk_lg L k with
    | some (.int x) => K (pc + 1) L (.int x :: st) w
    | _ => False)
  | .iload k => (match zk_lg L k with
    | some (.int x) => K (pc + 2) L (.int x :: st) w
    | _ => False)
  | .lload_n k => (match zk_lg L k with
    | some (.long x) => K (pc + 1) L (.long x :: st) w
    | _ => False)
  | .lload k => (match zk_lg L k with
    | some (.long x) => K (pc + 2) L (.long x :: st) w
    | _ => False)
  | .dload_n k => (match zk_lg L k with
    | some (.double x) => K (pc + 1) L (.double x :: st) w
    | _ => False)
  | .dload k => (match zk_lg L k with
    | some (.double x) => K (pc + 2) L (.double x :: st) w
    | _ => False)
  | .aload_n k => (match zk_lg L k with
    | some v => zk_isr v ∧ K (pc + 1) L (v :: st) w
    | none => False)
  | .aload k => (match zk_lg L k with
    | some v => zk_isr v ∧ K (pc + 2) L (v :: st) w
    | none => False)
  | .istore_n k => (match st with
    | .int x :: r => (match zk_st1 L k (.int x) with
      | some L2 => K (pc + 1) L2 r w
      | none => False)
    | _ => False)
  | .istore k => (match st with
    | .int x :: r => (match zk_st1 L k (.int x) with
      | some L2 => K (pc + 2) L2 r w
      | none => False)
    | _ => False)
  | .lstore_n k => (match st with
    | .long x :: r => (match zk_st2 L k (.long x) with
      | some L2 => K (pc + 1) L2 r w
      | none => False)
    | _ => False)
  | .lstore k => (match st with
    | .long x :: r => (match zk_st2 L k (.long x) with
      | some L2 => K (pc + 2) L2 r w
      | none => False)
    | _ => False)
  | .dstore_n k => (match st with
    | .double x :: r => (match zk_st2 L k (.double x) with
      | some L2 => K (pc + 1) L2 r w
      | none => False)
    | _ => False)
  | .dstore k => (match st with
    | .double x :: r => (match zk_st2 L k (.double x) with
      | some L2 => K (pc + 2) L2 r w
      | none => False)
    | _ => False)
  | .astore_n k => (match st with
    | v :: r => zk_isr v ∧ (match zk_st1 L k v with
      | some L2 => K (pc + 1) L2 r w
      | none => False)
    | _ => False)
  | .astore k => (match st with
    | v :: r => zk_isr v ∧ (match zk_st1 L k v with
      | some L2 => K (pc + 2) L2 r w
      | none => False)
    | _ => False)
  | .iconst n => K (pc + 1) L (.int (Int32.ofInt n) :: st) w
  | .bipush n => K (pc + 2) L (.int ((Int8.ofInt n).toInt32) :: st) w
  | .sipush n => K (pc + 3) L (.int ((Int16.ofInt n).toInt32) :: st) w
  | .lconst n => K (pc + 1) L (.long (Int64.ofNat (n : Nat)) :: st) w
  | .dconst n => (match n with
    | 0 => K (pc + 1) L (.double 0 :: st) w
    | _ => False)
  | .aconst_null => K (pc + 1) L (.null :: st) w
  | .ldc i => (match M.2.2.1.2.2.2.2 i with
    | some (.int v) => K (pc + 2) L (.int v :: st) w
    | _ => False)
  | .ldc_w i => (match M.2.2.1.2.2.2.2 i with
    | some (.int v) => K (pc + 3) L (.int v :: st) w
    | _ => False)
  | .ldc2_w i => (match M.2.2.1.2.2.2.2 i with
    | some (.long v) => K (pc + 3) L (.long v :: st) w
    | _ => False)
  | .iadd => (match st with
    | .int y :: .int x :: r => K (pc + 1) L (.int (x + y) :: r) w
    | _ => False)
  | .isub => (match st with
    | .int y :: .int x :: r => K (pc + 1) L (.int (x - y) :: r) w
    | _ => False)
  | .imul => (match st with
    | .int y :: .int x :: r => K (pc + 1) L (.int (x * y) :: r) w
    | _ => False)
  | .iand => (match st with
    | .int y :: .int x :: r => K (pc + 1) L (.int (x &&& y) :: r) w
    | _ => False)
  | .ior => (match st with
    | .int y :: .int x :: r => K (pc + 1) L (.int (x ||| y) :: r) w
    | _ => False)
  | .ishr => (match st with
    | .int y :: .int x :: r => K (pc + 1) L (.int (x >>> (y &&& 31)) :: r) w
    | _ => False)
  | .idiv => (match st with
    | .int y :: .int x :: r => ¬ y = 0 ∧ K (pc + 1) L (.int (x / y) :: r) w
    | _ => False)
  | .irem => (match st with
    | .int y :: .int x :: r => ¬ y = 0 ∧ K (pc + 1) L (.int (x - x / y * y) :: r) w
    | _ => False)
  | .ladd => (match st with
    | .long y :: .long x :: r => K (pc + 1) L (.long (x + y) :: r) w
    | _ => False)
  | .lsub => (match st with
    | .long y :: .long x :: r => K (pc + 1) L (.long (x - y) :: r) w
    | _ => False)
  | .lmul => (match st with
    | .long y :: .long x :: r => K (pc + 1) L (.long (x * y) :: r) w
    | _ => False)
  | .lcmp => (match st with
    | .long y :: .long x :: r => K (pc + 1) L (.int (lg_cmp x y) :: r) w
    | _ => False)
  | .ddiv => (match st with
    | .double y :: .double x :: r => vf_n64 (FP.ddiv x y) ∧ K (pc + 1) L (.double (FP.ddiv x y) :: r) w
    | _ => False)
  | .dcmp op => (match st with
    | .double y :: .double x :: r => K (pc + 1) L (.int (Op.cmpValue (FP.dcmp x y) op) :: r) w
    | _ => False)
  | .ineg => (match st with
    | .int x :: r => K (pc + 1) L (.int (-x) :: r) w
    | _ => False)
  | .i2l => (match st with
    | .int x :: r => K (pc + 1) L (.long (x.toInt64) :: r) w
    | _ => False)
  | .l2i => (match st with
    | .long x :: r => K (pc + 1) L (.int (x.toInt32) :: r) w
    | _ => False)
  | .i2d => (match st with
    | .int x :: r => K (pc + 1) L (.double (FP.i2d x) :: r) w
    | _ => False)
  | .iinc i n => (match zk_lg L i with
    | some (.int x) => (match zk_st1 L i (.int (x + Int32.ofInt n)) with
      | some L2 => K (pc + 3) L2 st w
      | none => False)
    | _ => False)
  | .dup => (match st with
    | v :: r => zk_c1 v ∧ K (pc + 1) L (v :: v :: r) w
    | _ => False)
  | .pop => (match st with
    | v :: r => zk_c1 v ∧ K (pc + 1) L r w
    | _ => False)
  | .dup_x1 => (match st with
    | v :: u :: r => zk_c1 v ∧ zk_c1 u ∧ K (pc + 1) L (v :: u :: v :: r) w
    | _ => False)
  | .dup2 => (match st with
    | v :: u :: r => zk_c1 v ∧ zk_c1 u ∧ K (pc + 1) L (v :: u :: v :: u :: r) w
    | _ => False)
  | .goto off => (match decide (0 ≤ (pc : Int) + off) with
    | true => K ((pc : Int) + off).toNat L st w
    | false => False)
  | .ifCond cc off => (match st with
    | .int x :: r => zk_if pc off (match cc with
      | .eq => x = 0
      | .ne => ¬ x = 0
      | .lt => x < 0
      | .ge => 0 ≤ x
      | .gt => 0 < x
      | .le => x ≤ 0
      ) (fun t => K t L r w) (K (pc + 3) L r w)
    | _ => False)
  | .if_icmp cc off => (match st with
    | .int y :: .int x :: r => zk_if pc off (match cc with
      | .eq => x = y
      | .ne => ¬ x = y
      | .lt => x < y
      | .ge => y ≤ x
      | .gt => y < x
      | .le => x ≤ y
      ) (fun t => K t L r w) (K (pc + 3) L r w)
    | _ => False)
  | .if_acmp cc off => (match st with
    | y :: x :: r => zk_isr x ∧ zk_isr y ∧ zk_if pc off (match cc with
      | .eq => x = y
      | .ne => ¬ x = y) (fun t => K t L r w) (K (pc + 3) L r w)
    | _ => False)
  | .ifnull off => (match st with
    | v :: r => zk_isr v ∧ zk_if pc off (v = .null) (fun t => K t L r w) (K (pc + 3) L r w)
    | _ => False)
  | .ifnonnull off => (match st with
    | v :: r => zk_isr v ∧ zk_if pc off (¬ v = .null) (fun t => K t L r w) (K (pc + 3) L r w)
    | _ => False)
  | .tableswitch df lo hi offs => (match st with
    | .int x :: r => (match zk_tab df lo hi offs x with
      | some off => (match decide (0 ≤ (pc : Int) + off) with
        | true => K ((pc : Int) + off).toNat L r w
        | false => False)
      | none => False)
    | _ => False)
  | .getfield i => (match st with
    | .ref a :: r => (match M.2.2.1.1 i with
      | some q => zk_fld (V.1 w.1 a) q.1 q.2 (fun v => K (pc + 3) L (v :: r) w)
      | none => False)
    | _ => False)
  | .putfield i => (match st with
    | v :: .ref a :: r => (match M.2.2.1.2.1 i with
      | some q => zk_put (V.1 w.1 a) q.1 q.2.1 q.2.2 v (V.2.2.2.2 w.1 a q.2.1 v ∧ K (pc + 3) L r (V.2.2.2.1 w.1 a q.2.1 v, w.2))
      | none => False)
    | _ => False)
  | .iaload => (match st with
    | .int i :: .ref a :: r => zk_ild (V.1 w.1 a) (zk_ar E 0) i (fun x => K (pc + 1) L (.int x :: r) w)
    | _ => False)
  | .aaload => (match st with
    | .int i :: .ref a :: r => zk_qld (V.1 w.1 a) i [zk_ar E 3, zk_ar E 4, zk_ar E 5, zk_ar E 6, zk_ar E 7] (fun x => (x = none → K (pc + 1) L (.null :: r) w) ∧ ∀ b, x = some b → K (pc + 1) L (.ref b :: r) w)
    | _ => False)
  | .arraylength => (match st with
    | .ref a :: r => zk_lenq E (V.1 w.1 a) (fun x => K (pc + 1) L (.int x :: r) w)
    | _ => False)
  | .iastore => (match st with
    | .int x :: .int i :: .ref a :: r => zk_ist (V.1 w.1 a) (zk_ar E 0) i x (fun e => V.2.2.1 w.1 a e ∧ K (pc + 1) L r (V.2.1 w.1 a e, w.2))
    | _ => False)
  | .aastore => (match st with
    | .ref v :: .int i :: .ref a :: r => zk_qst E (V.1 w.1 a) (V.1 w.1 v) i v (fun e => V.2.2.1 w.1 a e ∧ K (pc + 1) L r (V.2.1 w.1 a e, w.2))
    | .null :: .int i :: .ref a :: r => zk_qsn (V.1 w.1 a) i [zk_ar E 3, zk_ar E 4, zk_ar E 5, zk_ar E 6] (fun e => V.2.2.1 w.1 a e ∧ K (pc + 1) L r (V.2.1 w.1 a e, w.2))
    | _ => False)
  | .new i => (match M.2.2.1.2.2.1 i with
    | some ci => w.2.2.1 + 1 ≤ M.2.2.2.1.2.1 ∧ w.2.2.2 + (zk_new ci).length ≤ M.2.2.2.1.2.2 ∧ V.2.2.1 w.1 w.2.1 (.inr (ci, zk_new ci)) ∧ K (pc + 3) L (.ref w.2.1 :: st) (V.2.1 w.1 w.2.1 (.inr (ci, zk_new ci)), w.2.1 + 1, w.2.2.1 + 1, w.2.2.2 + (zk_new ci).length)
    | none => False)
  | .newarray t => (match st with
    | .int n :: r => ¬ n < 0 ∧ n.toNatClampNeg ≤ 1000000 ∧ w.2.2.1 + 1 ≤ M.2.2.2.1.2.1 ∧ w.2.2.2 + n.toNatClampNeg ≤ M.2.2.2.1.2.2 ∧ zk_nar E t n.toNatClampNeg (fun e => V.2.2.1 w.1 w.2.1 e ∧ K (pc + 2) L (.ref w.2.1 :: r) (V.2.1 w.1 w.2.1 e, w.2.1 + 1, w.2.2.1 + 1, w.2.2.2 + n.toNatClampNeg))
    | _ => False)
  | .anewarray i => (match st with
    | .int n :: r => ¬ n < 0 ∧ n.toNatClampNeg ≤ 1000000 ∧ w.2.2.1 + 1 ≤ M.2.2.2.1.2.1 ∧ w.2.2.2 + n.toNatClampNeg ≤ M.2.2.2.1.2.2 ∧ (match M.2.2.1.2.2.2.1 i with
      | some k => V.2.2.1 w.1 w.2.1 (zk_nqr E k n.toNatClampNeg) ∧ K (pc + 3) L (.ref w.2.1 :: r) (V.2.1 w.1 w.2.1 (zk_nqr E k n.toNatClampNeg), w.2.1 + 1, w.2.2.1 + 1, w.2.2.2 + n.toNatClampNeg)
      | none => False)
    | _ => False)
  | .ireturn => (match st with
    | [.int x] => zk_nok M.2.2.2.1.1 x ∧ P (some (.int x)) w.1 w.2.1 ∧ w.2.2.1 ≤ M.2.2.2.1.2.1 ∧ w.2.2.2 ≤ M.2.2.2.1.2.2
    | _ => False)
  | .lreturn => (match st, M.2.2.2.1.1 with
    | [.long x], some .long => P (some (.long x)) w.1 w.2.1 ∧ w.2.2.1 ≤ M.2.2.2.1.2.1 ∧ w.2.2.2 ≤ M.2.2.2.1.2.2
    | _, _ => False)
  | .dreturn => (match st, M.2.2.2.1.1 with
    | [.double x], some .double => P (some (.double x)) w.1 w.2.1 ∧ w.2.2.1 ≤ M.2.2.2.1.2.1 ∧ w.2.2.2 ≤ M.2.2.2.1.2.2
    | _, _ => False)
  | .areturn => (match st, M.2.2.2.1.1 with
    | [v], some (.object _) => zk_isr v ∧ P (some v) w.1 w.2.1 ∧ w.2.2.1 ≤ M.2.2.2.1.2.1 ∧ w.2.2.2 ≤ M.2.2.2.1.2.2
    | [v], some (.array _) => zk_isr v ∧ P (some v) w.1 w.2.1 ∧ w.2.2.1 ≤ M.2.2.2.1.2.1 ∧ w.2.2.2 ≤ M.2.2.2.1.2.2
    | _, _ => False)
  | .return_ => (match st, M.2.2.2.1.1 with
    | [], none => P none w.1 w.2.1 ∧ w.2.2.1 ≤ M.2.2.2.1.2.1 ∧ w.2.2.2 ≤ M.2.2.2.1.2.2
    | _, _ => False)
  | _ => False
def zk_one : Value → Bool
  | .long _ => false
  | .double _ => false
  | _ => true
def zk_c8 (L : List Value) : Bool := decide (L.length ≤ 4) || (decide (L.length ≤ 8) && L.all zk_one)
def zk_call (n mc ms : Nat) (sp : zk_Sp S) (pc : Nat) (L : zk_L) (st : List Value) (w : zk_W S) (K : Nat → zk_L → List Value → zk_W S → Prop) : Prop :=
  match decide (n ≤ st.length) && zk_c8 (st.drop n) with
  | true => w.2.2.1 + mc ≤ M.2.2.2.1.2.1 ∧ w.2.2.2 + ms ≤ M.2.2.2.1.2.2 ∧ sp (st.take n).reverse w.1 w.2.1 (fun v s2 z2 => K (pc + 3) L (zk_psh v (st.drop n)) (s2, z2, w.2.2.1 + mc, w.2.2.2 + ms))
    (fun X s2 z2 => match M.2.2.2.2.2.1 pc X with
      | some hp => ∀ q : Nat, K hp L [.ref q] (s2, z2, w.2.2.1 + mc, w.2.2.2 + ms)
      | none => PX X s2 z2)
  | false => False
def zk_math (tag : Nat) (pc : Nat) (L : zk_L) (st : List Value) (w : zk_W S) (K : Nat → zk_L → List Value → zk_W S → Prop) : Prop := match tag, st with
  | 0, .int y :: .int x :: r => r.length ≤ 4 ∧ w.2.2.1 ≤ M.2.2.2.1.2.1 ∧ w.2.2.2 ≤ M.2.2.2.1.2.2 ∧ K (pc + 3) L (.int (i_min x y) :: r) w
  | 1, .int y :: .int x :: r => r.length ≤ 4 ∧ w.2.2.1 ≤ M.2.2.2.1.2.1 ∧ w.2.2.2 ≤ M.2.2.2.1.2.2 ∧ K (pc + 3) L (.int (i_max x y) :: r) w
  | 2, .int x :: r => r.length ≤ 4 ∧ w.2.2.1 ≤ M.2.2.2.1.2.1 ∧ w.2.2.2 ≤ M.2.2.2.1.2.2 ∧ K (pc + 3) L (.int (i_abs x) :: r) w
  | _, _ => False
def zk_step (pc : Nat) (L : zk_L) (st : List Value) (w : zk_W S) (K : Nat → zk_L → List Value → zk_W S → Prop) : Prop :=
  match M.2.2.2.2.1 pc with
  | some X => st = [] ∧ (∀ z2, w.2.1 ≤ z2 → PX X w.1 z2) ∧ w.2.2.1 + 1 ≤ M.2.2.2.1.2.1 ∧ w.2.2.2 + 6 ≤ M.2.2.2.1.2.2
  | none => match M.2.2.2.2.2.2.1 pc with
  | true => (match st with
    | .ref _ :: r => (match decide (r.length ≤ 4) with
      | true => K (pc + 3) L r w
      | false => False)
    | _ => False)
  | false => match M.2.2.2.2.2.2.2.1 pc with
  | true => st.length ≤ 4 ∧ w.2.2.1 + 1 ≤ M.2.2.2.1.2.1 ∧ w.2.2.2 + 10 ≤ M.2.2.2.1.2.2 ∧ V.2.2.1 w.1 w.2.1 (.inl (E.2.2 0, 10, .inl zk_FL)) ∧ K (pc + 9) L (.ref w.2.1 :: st) (V.2.1 w.1 w.2.1 (.inl (E.2.2 0, 10, .inl zk_FL)), w.2.1 + 1, w.2.2.1 + 1, w.2.2.2 + 10)
  | false => match M.2.2.2.2.2.2.2.2 pc with
  | some tag => zk_math M tag pc L st w K
  | none => match C pc with
  | some (n, mc, ms, sp) => zk_call M PX n mc ms sp pc L st w K
  | none => match M.1 pc with
  | some i => zk_ins E V M P pc i L st w K
  | none => False
def zk_run (K : Nat → zk_L → List Value → zk_W S → Prop) : Nat → Nat → zk_L → List Value → zk_W S → Prop
  | 0, pc, L, st, w => K pc L st w
  | n + 1, pc, L, st, w => match M.2.1 pc with
    | true => K pc L st w
    | false => zk_step E V M C P PX pc L st w (zk_run K n)
def zk_go (K : Nat → zk_L → List Value → zk_W S → Prop) (n pc : Nat) (L : zk_L) (st : List Value) (w : zk_W S) : Prop := zk_step E V M C P PX pc L st w (zk_run E V M C P PX K n)
end ZI
