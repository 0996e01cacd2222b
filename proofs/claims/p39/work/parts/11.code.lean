/-! each method: its code, stops, throws; what the tables say of it -/
set_option maxRecDepth 20000 in
theorem ats_0 : ∀ w ∈ vx_atS RX10 49 "java/lang/IllegalArgumentException" ["java/lang/RuntimeException", "java/lang/Exception"], (w ∈ lw_tbl ∧ (goodWord w || (zk_nx w && w.onTables)) = true) ∧ vx_ot w = true := by decide +kernel
set_option maxRecDepth 20000 in
theorem ats_1 : ∀ w ∈ vx_atS RX10 60 "java/lang/IllegalStateException" ["java/lang/RuntimeException", "java/lang/Exception"], (w ∈ lw_tbl ∧ (goodWord w || (zk_nx w && w.onTables)) = true) ∧ vx_ot w = true := by decide +kernel
set_option maxRecDepth 20000 in
theorem ats_2 : ∀ w ∈ vx_atS RX10 186 "java/lang/IndexOutOfBoundsException" ["java/lang/RuntimeException", "java/lang/Exception"], (w ∈ lw_tbl ∧ (goodWord w || (zk_nx w && w.onTables)) = true) ∧ vx_ot w = true := by decide +kernel
def cl_X0_init : List (Nat × List (Nat × Instr)) := [(21, [(0, .aload_n 0), (1, .invokespecial 3), (4, .aload_n 0), (5, .bipush 20), (7, .newarray .int), (9, .putfield 9), (12, .aload_n 0), (13, .bipush 20), (15, .newarray .int), (17, .putfield 15), (20, .return_)])]
theorem clo_X0_init : zk_okc cX0_init cl_X0_init = true := by decide +kernel
def rm_X0_init : Room := { frames := 1, cells := 2, slots := 40, locals := 20 }
def M_X0_init : zk_M := (zk_lkc cl_X0_init, zk_in [], tbi_X0, (none, 2, 40), (zk_lka [], fun _ _ => none, zk_in [1], zk_in [], zk_lka []))
theorem MO_X0_init : zk_MO RX0 cX0_init (yX0_init.name = "<init>") M_X0_init := zk_MO_of clo_X0_init rfl (tbio_X0 rfl)
theorem TO_X0_init : zk_TO RX0 cX0_init rm_X0_init M_X0_init := ⟨fun pc h => by
    have h2 := zk_in_mem h
    simp only [List.mem_cons, List.not_mem_nil, or_false] at h2
    subst h2
    exact ⟨3, by decide +kernel, zk_wi 525 (by decide +kernel) rfl, by decide, by decide⟩, fun pc h => absurd (zk_in_mem h) List.not_mem_nil, fun pc tag h => absurd (zk_lka_mem h) List.not_mem_nil⟩
theorem THo_X0_init : ∀ pc X, M_X0_init.2.2.2.2.1 pc = some X → zk_TH RX0 cX0_init rm_X0_init pc X := fun pc X h => absurd (zk_lka_mem h) List.not_mem_nil
def cl_X0_gather : List (Nat × List (Nat × Instr)) := [(17, [(0, .iconst 0), (1, .istore_n 2), (2, .iload_n 2), (3, .bipush 20), (5, .if_icmp .ge 34), (8, .aload_n 1), (9, .getfield 18), (12, .iload_n 2), (13, .aaload), (14, .astore_n 3), (15, .aload_n 0), (16, .getfield 9)]),
  (40, [(19, .iload_n 2), (20, .aload_n 3), (21, .ifnonnull 7), (24, .iconst 0), (25, .goto 7), (28, .aload_n 3), (29, .getfield 24), (32, .iastore), (33, .iinc 2 1), (36, .goto (-34)), (39, .return_)])]
theorem clo_X0_gather : zk_okc cX0_gather cl_X0_gather = true := by decide +kernel
def rm_X0_gather : Room := { frames := 0, cells := 0, slots := 0, locals := 0 }
def M_X0_gather : zk_M := (zk_lkc cl_X0_gather, zk_in [2], tb_X0, (none, 0, 0), (zk_lka [], fun _ _ => none, zk_in [], zk_in [], zk_lka []))
theorem MO_X0_gather : zk_MO RX0 cX0_gather (yX0_gather.name = "<init>") M_X0_gather := zk_MO_of clo_X0_gather rfl tbo_X0
theorem TO_X0_gather : zk_TO RX0 cX0_gather rm_X0_gather M_X0_gather := ⟨fun pc h => absurd (zk_in_mem h) List.not_mem_nil, fun pc h => absurd (zk_in_mem h) List.not_mem_nil, fun pc tag h => absurd (zk_lka_mem h) List.not_mem_nil⟩
theorem THo_X0_gather : ∀ pc X, M_X0_gather.2.2.2.2.1 pc = some X → zk_TH RX0 cX0_gather rm_X0_gather pc X := fun pc X h => absurd (zk_lka_mem h) List.not_mem_nil
def cl_X0_goOn : List (Nat × List (Nat × Instr)) := [(20, [(0, .aload_n 0), (1, .aload_n 1), (2, .invokevirtual 30), (5, .iconst 0), (6, .istore 4), (8, .iload 4), (10, .iload_n 3), (11, .if_icmp .ge 23), (14, .aload_n 0), (15, .aload_n 2), (16, .invokevirtual 34), (19, .ifCond .eq 15)]),
  (35, [(22, .aload_n 0), (23, .aload_n 1), (24, .aload_n 2), (25, .invokevirtual 38), (28, .iinc 4 1), (31, .goto (-23)), (34, .return_)])]
theorem clo_X0_goOn : zk_okc cX0_goOn cl_X0_goOn = true := by decide +kernel
def rm_X0_goOn : Room := { frames := 3, cells := 0, slots := 0, locals := 68 }
def M_X0_goOn : zk_M := (zk_lkc cl_X0_goOn, zk_in [8], tb_X0, (none, 0, 0), (zk_lka [], fun _ _ => none, zk_in [], zk_in [], zk_lka []))
theorem MO_X0_goOn : zk_MO RX0 cX0_goOn (yX0_goOn.name = "<init>") M_X0_goOn := zk_MO_of clo_X0_goOn rfl tbo_X0
theorem TO_X0_goOn : zk_TO RX0 cX0_goOn rm_X0_goOn M_X0_goOn := ⟨fun pc h => absurd (zk_in_mem h) List.not_mem_nil, fun pc h => absurd (zk_in_mem h) List.not_mem_nil, fun pc tag h => absurd (zk_lka_mem h) List.not_mem_nil⟩
theorem THo_X0_goOn : ∀ pc X, M_X0_goOn.2.2.2.2.1 pc = some X → zk_TH RX0 cX0_goOn rm_X0_goOn pc X := fun pc X h => absurd (zk_lka_mem h) List.not_mem_nil
def cl_X0_ticksTillOut : List (Nat × List (Nat × Instr)) := [(19, [(0, .aload_n 0), (1, .aload_n 1), (2, .invokevirtual 30), (5, .iconst 0), (6, .istore_n 3), (7, .iload_n 3), (8, .ldc 42), (10, .if_icmp .ge 23), (13, .aload_n 0), (14, .aload_n 2), (15, .invokevirtual 34), (18, .ifCond .eq 15)]),
  (35, [(21, .aload_n 0), (22, .aload_n 1), (23, .aload_n 2), (24, .invokevirtual 38), (27, .iinc 3 1), (30, .goto (-23)), (33, .iload_n 3), (34, .ireturn)])]
theorem clo_X0_ticksTillOut : zk_okc cX0_ticksTillOut cl_X0_ticksTillOut = true := by decide +kernel
def rm_X0_ticksTillOut : Room := { frames := 3, cells := 0, slots := 0, locals := 68 }
def M_X0_ticksTillOut : zk_M := (zk_lkc cl_X0_ticksTillOut, zk_in [7], tb_X0, (some (.int), 0, 0), (zk_lka [], fun _ _ => none, zk_in [], zk_in [], zk_lka []))
theorem MO_X0_ticksTillOut : zk_MO RX0 cX0_ticksTillOut (yX0_ticksTillOut.name = "<init>") M_X0_ticksTillOut := zk_MO_of clo_X0_ticksTillOut rfl tbo_X0
theorem TO_X0_ticksTillOut : zk_TO RX0 cX0_ticksTillOut rm_X0_ticksTillOut M_X0_ticksTillOut := ⟨fun pc h => absurd (zk_in_mem h) List.not_mem_nil, fun pc h => absurd (zk_in_mem h) List.not_mem_nil, fun pc tag h => absurd (zk_lka_mem h) List.not_mem_nil⟩
theorem THo_X0_ticksTillOut : ∀ pc X, M_X0_ticksTillOut.2.2.2.2.1 pc = some X → zk_TH RX0 cX0_ticksTillOut rm_X0_ticksTillOut pc X := fun pc X h => absurd (zk_lka_mem h) List.not_mem_nil
def cl_X0_isAnyToGo : List (Nat × List (Nat × Instr)) := [(19, [(0, .iconst 0), (1, .istore_n 2), (2, .iload_n 2), (3, .bipush 20), (5, .if_icmp .ge 30), (8, .aload_n 1), (9, .getfield 43), (12, .iload_n 2), (13, .iaload), (14, .iconst (-1)), (15, .if_icmp .eq 14), (18, .aload_n 0)]),
  (37, [(19, .getfield 9), (22, .iload_n 2), (23, .iaload), (24, .ifCond .le 5), (27, .iconst 1), (28, .ireturn), (29, .iinc 2 1), (32, .goto (-30)), (35, .iconst 0), (36, .ireturn)])]
theorem clo_X0_isAnyToGo : zk_okc cX0_isAnyToGo cl_X0_isAnyToGo = true := by decide +kernel
def rm_X0_isAnyToGo : Room := { frames := 0, cells := 0, slots := 0, locals := 0 }
def M_X0_isAnyToGo : zk_M := (zk_lkc cl_X0_isAnyToGo, zk_in [2], tb_X0, (some (.boolean), 0, 0), (zk_lka [], fun _ _ => none, zk_in [], zk_in [], zk_lka []))
theorem MO_X0_isAnyToGo : zk_MO RX0 cX0_isAnyToGo (yX0_isAnyToGo.name = "<init>") M_X0_isAnyToGo := zk_MO_of clo_X0_isAnyToGo rfl tbo_X0
theorem TO_X0_isAnyToGo : zk_TO RX0 cX0_isAnyToGo rm_X0_isAnyToGo M_X0_isAnyToGo := ⟨fun pc h => absurd (zk_in_mem h) List.not_mem_nil, fun pc h => absurd (zk_in_mem h) List.not_mem_nil, fun pc tag h => absurd (zk_lka_mem h) List.not_mem_nil⟩
theorem THo_X0_isAnyToGo : ∀ pc X, M_X0_isAnyToGo.2.2.2.2.1 pc = some X → zk_TH RX0 cX0_isAnyToGo rm_X0_isAnyToGo pc X := fun pc X h => absurd (zk_lka_mem h) List.not_mem_nil
def cl_X0_doTick : List (Nat × List (Nat × Instr)) := [(18, [(0, .iconst 0), (1, .istore_n 3), (2, .iload_n 3), (3, .bipush 20), (5, .if_icmp .ge 46), (8, .aload_n 1), (9, .aload_n 2), (10, .iload_n 3), (11, .invokestatic 48), (14, .astore 4), (16, .aload_n 0), (17, .getfield 15)]),
  (42, [(20, .iload_n 3), (21, .aload 4), (23, .ifnonnull 7), (26, .iconst 0), (27, .goto 17), (30, .aload_n 0), (31, .getfield 9), (34, .iload_n 3), (35, .iaload), (36, .aload 4), (38, .getfield 52), (41, .invokestatic 57)]),
  (63, [(44, .iastore), (45, .iinc 3 1), (48, .goto (-46)), (51, .iconst 0), (52, .istore_n 3), (53, .iload_n 3), (54, .bipush 20), (56, .if_icmp .ge 78), (59, .aload_n 1), (60, .aload_n 2), (61, .iload_n 3), (62, .invokestatic 48)]),
  (88, [(65, .astore 4), (67, .aload 4), (69, .ifnonnull 7), (72, .aconst_null), (73, .goto 14), (76, .aload 4), (78, .aload_n 1), (79, .getfield 18), (82, .iload_n 3), (83, .aaload), (84, .invokevirtual 63), (87, .astore 5)]),
  (105, [(89, .aload_n 0), (90, .getfield 9), (93, .iload_n 3), (94, .dup2), (95, .iaload), (96, .aload_n 0), (97, .getfield 15), (100, .iload_n 3), (101, .iaload), (102, .isub), (103, .iastore), (104, .aload 5)]),
  (127, [(106, .ifnull 22), (109, .aload_n 0), (110, .getfield 9), (113, .aload 5), (115, .getfield 67), (118, .dup2), (119, .iaload), (120, .aload_n 0), (121, .getfield 15), (124, .iload_n 3), (125, .iaload), (126, .iadd)]),
  (135, [(127, .iastore), (128, .iinc 3 1), (131, .goto (-78)), (134, .return_)])]
theorem clo_X0_doTick : zk_okc cX0_doTick cl_X0_doTick = true := by decide +kernel
def rm_X0_doTick : Room := { frames := 2, cells := 0, slots := 0, locals := 43 }
def M_X0_doTick : zk_M := (zk_lkc cl_X0_doTick, zk_in [2, 53], tb_X0, (none, 0, 0), (zk_lka [], fun _ _ => none, zk_in [], zk_in [], zk_lka [(41, 0)]))
theorem MO_X0_doTick : zk_MO RX0 cX0_doTick (yX0_doTick.name = "<init>") M_X0_doTick := zk_MO_of clo_X0_doTick rfl tbo_X0
theorem TO_X0_doTick : zk_TO RX0 cX0_doTick rm_X0_doTick M_X0_doTick := ⟨fun pc h => absurd (zk_in_mem h) List.not_mem_nil, fun pc h => absurd (zk_in_mem h) List.not_mem_nil, fun pc tag h => by
    have h2 := zk_lka_mem h
    simp only [List.mem_cons, List.not_mem_nil, or_false, Prod.mk.injEq] at h2
    rcases h2 with ⟨rfl, rfl⟩
    exact ⟨57, by decide +kernel, zk_wi 278 (by decide +kernel) rfl, by decide, by decide⟩⟩
theorem THo_X0_doTick : ∀ pc X, M_X0_doTick.2.2.2.2.1 pc = some X → zk_TH RX0 cX0_doTick rm_X0_doTick pc X := fun pc X h => absurd (zk_lka_mem h) List.not_mem_nil
def cl_X0_exitToGo : List (Nat × List (Nat × Instr)) := [(20, [(0, .aload_n 1), (1, .getfield 43), (4, .iload_n 2), (5, .iaload), (6, .iconst (-1)), (7, .if_icmp .ne 7), (10, .aconst_null), (11, .goto 13), (14, .aload_n 0), (15, .aload_n 1), (16, .getfield 70), (19, .iload_n 2)]),
  (25, [(20, .iaload), (21, .invokevirtual 73), (24, .areturn)])]
theorem clo_X0_exitToGo : zk_okc cX0_exitToGo cl_X0_exitToGo = true := by decide +kernel
def rm_X0_exitToGo : Room := { frames := 1, cells := 0, slots := 0, locals := 21 }
def M_X0_exitToGo : zk_M := (zk_lkc cl_X0_exitToGo, zk_in [], tb_X0, (some ((.object "ClerestoryPlan$Exit")), 0, 0), (zk_lka [], fun _ _ => none, zk_in [], zk_in [], zk_lka []))
theorem MO_X0_exitToGo : zk_MO RX0 cX0_exitToGo (yX0_exitToGo.name = "<init>") M_X0_exitToGo := zk_MO_of clo_X0_exitToGo rfl tbo_X0
theorem TO_X0_exitToGo : zk_TO RX0 cX0_exitToGo rm_X0_exitToGo M_X0_exitToGo := ⟨fun pc h => absurd (zk_in_mem h) List.not_mem_nil, fun pc h => absurd (zk_in_mem h) List.not_mem_nil, fun pc tag h => absurd (zk_lka_mem h) List.not_mem_nil⟩
theorem THo_X0_exitToGo : ∀ pc X, M_X0_exitToGo.2.2.2.2.1 pc = some X → zk_TH RX0 cX0_exitToGo rm_X0_exitToGo pc X := fun pc X h => absurd (zk_lka_mem h) List.not_mem_nil
def cl_X0_countInside : List (Nat × List (Nat × Instr)) := [(17, [(0, .iconst 0), (1, .istore_n 1), (2, .iconst 0), (3, .istore_n 2), (4, .iload_n 2), (5, .bipush 20), (7, .if_icmp .ge 18), (10, .iload_n 1), (11, .aload_n 0), (12, .getfield 9), (15, .iload_n 2), (16, .iaload)]),
  (27, [(17, .iadd), (18, .istore_n 1), (19, .iinc 2 1), (22, .goto (-18)), (25, .iload_n 1), (26, .ireturn)])]
theorem clo_X0_countInside : zk_okc cX0_countInside cl_X0_countInside = true := by decide +kernel
def rm_X0_countInside : Room := { frames := 0, cells := 0, slots := 0, locals := 0 }
def M_X0_countInside : zk_M := (zk_lkc cl_X0_countInside, zk_in [4], tb_X0, (some (.int), 0, 0), (zk_lka [], fun _ _ => none, zk_in [], zk_in [], zk_lka []))
theorem MO_X0_countInside : zk_MO RX0 cX0_countInside (yX0_countInside.name = "<init>") M_X0_countInside := zk_MO_of clo_X0_countInside rfl tbo_X0
theorem TO_X0_countInside : zk_TO RX0 cX0_countInside rm_X0_countInside M_X0_countInside := ⟨fun pc h => absurd (zk_in_mem h) List.not_mem_nil, fun pc h => absurd (zk_in_mem h) List.not_mem_nil, fun pc tag h => absurd (zk_lka_mem h) List.not_mem_nil⟩
theorem THo_X0_countInside : ∀ pc X, M_X0_countInside.2.2.2.2.1 pc = some X → zk_TH RX0 cX0_countInside rm_X0_countInside pc X := fun pc X h => absurd (zk_lka_mem h) List.not_mem_nil
def cl_X1_init : List (Nat × List (Nat × Instr)) := [(18, [(0, .aload_n 0), (1, .aload_n 1), (2, .aload_n 2), (3, .aload_n 3), (4, .invokevirtual 3), (7, .aload_n 3), (8, .invokevirtual 9), (11, .iconst 0), (12, .aload_n 3), (13, .getfield 12), (16, .iconst 2), (17, .imul)]),
  (27, [(18, .invokespecial 16), (21, .aload_n 0), (22, .aload_n 3), (23, .putfield 22), (26, .return_)])]
theorem clo_X1_init : zk_okc cX1_init cl_X1_init = true := by decide +kernel
def rm_X1_init : Room := { frames := 2, cells := 0, slots := 0, locals := 46 }
def M_X1_init : zk_M := (zk_lkc cl_X1_init, zk_in [], tbi_X1, (none, 0, 0), (zk_lka [], fun _ _ => none, zk_in [], zk_in [], zk_lka []))
theorem MO_X1_init : zk_MO RX1 cX1_init (yX1_init.name = "<init>") M_X1_init := zk_MO_of clo_X1_init rfl (tbio_X1 rfl)
theorem TO_X1_init : zk_TO RX1 cX1_init rm_X1_init M_X1_init := ⟨fun pc h => absurd (zk_in_mem h) List.not_mem_nil, fun pc h => absurd (zk_in_mem h) List.not_mem_nil, fun pc tag h => absurd (zk_lka_mem h) List.not_mem_nil⟩
theorem THo_X1_init : ∀ pc X, M_X1_init.2.2.2.2.1 pc = some X → zk_TH RX1 cX1_init rm_X1_init pc X := fun pc X h => absurd (zk_lka_mem h) List.not_mem_nil
def cl_X2_init : List (Nat × List (Nat × Instr)) := [(20, [(0, .aload_n 0), (1, .invokespecial 1), (4, .aload_n 0), (5, .aload_n 1), (6, .putfield 7), (9, .aload_n 0), (10, .aload_n 2), (11, .putfield 13), (14, .aload_n 0), (15, .iload_n 3), (16, .putfield 16), (19, .aload_n 0)]),
  (38, [(20, .iload 4), (22, .putfield 20), (25, .aload_n 0), (26, .iload 5), (28, .putfield 23), (31, .aload_n 0), (32, .iload 6), (34, .putfield 26), (37, .return_)])]
theorem clo_X2_init : zk_okc cX2_init cl_X2_init = true := by decide +kernel
def rm_X2_init : Room := { frames := 1, cells := 0, slots := 0, locals := 20 }
def M_X2_init : zk_M := (zk_lkc cl_X2_init, zk_in [], tbi_X2, (none, 0, 0), (zk_lka [], fun _ _ => none, zk_in [1], zk_in [], zk_lka []))
theorem MO_X2_init : zk_MO RX2 cX2_init (yX2_init.name = "<init>") M_X2_init := zk_MO_of clo_X2_init rfl (tbio_X2 rfl)
theorem TO_X2_init : zk_TO RX2 cX2_init rm_X2_init M_X2_init := ⟨fun pc h => by
    have h2 := zk_in_mem h
    simp only [List.mem_cons, List.not_mem_nil, or_false] at h2
    subst h2
    exact ⟨1, by decide +kernel, zk_wi 846 (by decide +kernel) rfl, by decide, by decide⟩, fun pc h => absurd (zk_in_mem h) List.not_mem_nil, fun pc tag h => absurd (zk_lka_mem h) List.not_mem_nil⟩
theorem THo_X2_init : ∀ pc X, M_X2_init.2.2.2.2.1 pc = some X → zk_TH RX2 cX2_init rm_X2_init pc X := fun pc X h => absurd (zk_lka_mem h) List.not_mem_nil
def cl_X2_isOf : List (Nat × List (Nat × Instr)) := [(22, [(0, .aload_n 0), (1, .getfield 7), (4, .aload_n 1), (5, .if_acmp .eq 11), (8, .aload_n 0), (9, .getfield 13), (12, .aload_n 1), (13, .if_acmp .ne 7), (16, .iconst 1), (17, .goto 4), (20, .iconst 0), (21, .ireturn)])]
theorem clo_X2_isOf : zk_okc cX2_isOf cl_X2_isOf = true := by decide +kernel
def rm_X2_isOf : Room := { frames := 0, cells := 0, slots := 0, locals := 0 }
def M_X2_isOf : zk_M := (zk_lkc cl_X2_isOf, zk_in [], tb_X2, (some (.boolean), 0, 0), (zk_lka [], fun _ _ => none, zk_in [], zk_in [], zk_lka []))
theorem MO_X2_isOf : zk_MO RX2 cX2_isOf (yX2_isOf.name = "<init>") M_X2_isOf := zk_MO_of clo_X2_isOf rfl tbo_X2
theorem TO_X2_isOf : zk_TO RX2 cX2_isOf rm_X2_isOf M_X2_isOf := ⟨fun pc h => absurd (zk_in_mem h) List.not_mem_nil, fun pc h => absurd (zk_in_mem h) List.not_mem_nil, fun pc tag h => absurd (zk_lka_mem h) List.not_mem_nil⟩
theorem THo_X2_isOf : ∀ pc X, M_X2_isOf.2.2.2.2.1 pc = some X → zk_TH RX2 cX2_isOf rm_X2_isOf pc X := fun pc X h => absurd (zk_lka_mem h) List.not_mem_nil
def cl_X2_otherThan : List (Nat × List (Nat × Instr)) := [(20, [(0, .aload_n 0), (1, .getfield 7), (4, .aload_n 1), (5, .if_acmp .ne 10), (8, .aload_n 0), (9, .getfield 13), (12, .goto 7), (15, .aload_n 0), (16, .getfield 7), (19, .areturn)])]
theorem clo_X2_otherThan : zk_okc cX2_otherThan cl_X2_otherThan = true := by decide +kernel
def rm_X2_otherThan : Room := { frames := 0, cells := 0, slots := 0, locals := 0 }
def M_X2_otherThan : zk_M := (zk_lkc cl_X2_otherThan, zk_in [], tb_X2, (some ((.object "ClerestoryPlan$Room")), 0, 0), (zk_lka [], fun _ _ => none, zk_in [], zk_in [], zk_lka []))
theorem MO_X2_otherThan : zk_MO RX2 cX2_otherThan (yX2_otherThan.name = "<init>") M_X2_otherThan := zk_MO_of clo_X2_otherThan rfl tbo_X2
theorem TO_X2_otherThan : zk_TO RX2 cX2_otherThan rm_X2_otherThan M_X2_otherThan := ⟨fun pc h => absurd (zk_in_mem h) List.not_mem_nil, fun pc h => absurd (zk_in_mem h) List.not_mem_nil, fun pc tag h => absurd (zk_lka_mem h) List.not_mem_nil⟩
theorem THo_X2_otherThan : ∀ pc X, M_X2_otherThan.2.2.2.2.1 pc = some X → zk_TH RX2 cX2_otherThan rm_X2_otherThan pc X := fun pc X h => absurd (zk_lka_mem h) List.not_mem_nil
def cl_X2_distanceTo : List (Nat × List (Nat × Instr)) := [(20, [(0, .aload_n 0), (1, .getfield 16), (4, .iload_n 1), (5, .isub), (6, .invokestatic 29), (9, .aload_n 0), (10, .getfield 20), (13, .iload_n 2), (14, .isub), (15, .invokestatic 29), (18, .iadd), (19, .ireturn)])]
theorem clo_X2_distanceTo : zk_okc cX2_distanceTo cl_X2_distanceTo = true := by decide +kernel
def rm_X2_distanceTo : Room := { frames := 1, cells := 0, slots := 0, locals := 23 }
def M_X2_distanceTo : zk_M := (zk_lkc cl_X2_distanceTo, zk_in [], tb_X2, (some (.int), 0, 0), (zk_lka [], fun _ _ => none, zk_in [], zk_in [], zk_lka [(6, 2), (15, 2)]))
theorem MO_X2_distanceTo : zk_MO RX2 cX2_distanceTo (yX2_distanceTo.name = "<init>") M_X2_distanceTo := zk_MO_of clo_X2_distanceTo rfl tbo_X2
theorem TO_X2_distanceTo : zk_TO RX2 cX2_distanceTo rm_X2_distanceTo M_X2_distanceTo := ⟨fun pc h => absurd (zk_in_mem h) List.not_mem_nil, fun pc h => absurd (zk_in_mem h) List.not_mem_nil, fun pc tag h => by
    have h2 := zk_lka_mem h
    simp only [List.mem_cons, List.not_mem_nil, or_false, Prod.mk.injEq] at h2
    rcases h2 with ⟨rfl, rfl⟩ | ⟨rfl, rfl⟩
    · exact ⟨29, by decide +kernel, zk_wi 140 (by decide +kernel) rfl, by decide, by decide⟩
    · exact ⟨29, by decide +kernel, zk_wi 140 (by decide +kernel) rfl, by decide, by decide⟩⟩
theorem THo_X2_distanceTo : ∀ pc X, M_X2_distanceTo.2.2.2.2.1 pc = some X → zk_TH RX2 cX2_distanceTo rm_X2_distanceTo pc X := fun pc X h => absurd (zk_lka_mem h) List.not_mem_nil
def cl_X3_init : List (Nat × List (Nat × Instr)) := [(24, [(0, .aload_n 0), (1, .invokespecial 3), (4, .aload_n 0), (5, .sipush 210), (8, .newarray .int), (10, .putfield 9), (13, .aload_n 0), (14, .sipush 210), (17, .newarray .int), (19, .putfield 15), (22, .aload_n 0), (23, .sipush 210)]),
  (32, [(26, .newarray .int), (28, .putfield 18), (31, .return_)])]
theorem clo_X3_init : zk_okc cX3_init cl_X3_init = true := by decide +kernel
def rm_X3_init : Room := { frames := 1, cells := 3, slots := 630, locals := 20 }
def M_X3_init : zk_M := (zk_lkc cl_X3_init, zk_in [], tbi_X3, (none, 3, 630), (zk_lka [], fun _ _ => none, zk_in [1], zk_in [], zk_lka []))
theorem MO_X3_init : zk_MO RX3 cX3_init (yX3_init.name = "<init>") M_X3_init := zk_MO_of clo_X3_init rfl (tbio_X3 rfl)
theorem TO_X3_init : zk_TO RX3 cX3_init rm_X3_init M_X3_init := ⟨fun pc h => by
    have h2 := zk_in_mem h
    simp only [List.mem_cons, List.not_mem_nil, or_false] at h2
    subst h2
    exact ⟨3, by decide +kernel, zk_wi 539 (by decide +kernel) rfl, by decide, by decide⟩, fun pc h => absurd (zk_in_mem h) List.not_mem_nil, fun pc tag h => absurd (zk_lka_mem h) List.not_mem_nil⟩
theorem THo_X3_init : ∀ pc X, M_X3_init.2.2.2.2.1 pc = some X → zk_TH RX3 cX3_init rm_X3_init pc X := fun pc X h => absurd (zk_lka_mem h) List.not_mem_nil
def cl_X3_tellRule : List (Nat × List (Nat × Instr)) := [(24, [(0, .iload_n 3), (1, .iconst 2), (2, .if_icmp .ne 8), (5, .bipush 40), (7, .goto 16), (10, .iload_n 3), (11, .bipush 8), (13, .if_icmp .ne 8), (16, .bipush 10), (18, .goto 5), (21, .bipush 20), (23, .istore 4)]),
  (45, [(25, .iconst 0), (26, .istore 5), (28, .iload 5), (30, .iload 4), (32, .if_icmp .ge 79), (35, .iload_n 3), (36, .iconst 2), (37, .if_icmp .ne 20), (40, .aload_n 0), (41, .iload_n 3), (42, .iload 5), (44, .aload_n 1)]),
  (68, [(45, .aload_n 2), (46, .iload 5), (48, .invokestatic 21), (51, .invokevirtual 25), (54, .goto 51), (57, .iload_n 3), (58, .bipush 8), (60, .if_icmp .ne 30), (63, .aload_n 0), (64, .iload_n 3), (65, .iload 5), (67, .aload_n 2)]),
  (88, [(68, .getfield 29), (71, .bipush 40), (73, .iload 5), (75, .iadd), (76, .iaload), (77, .aload_n 1), (78, .getfield 34), (81, .iload_n 3), (82, .iaload), (83, .isub), (84, .invokevirtual 25), (87, .goto 18)]),
  (112, [(90, .aload_n 0), (91, .iload_n 3), (92, .iload 5), (94, .aload_n 1), (95, .aload_n 2), (96, .iload_n 3), (97, .iload 5), (99, .invokestatic 39), (102, .invokevirtual 25), (105, .iinc 5 1), (108, .goto (-80)), (111, .return_)])]
theorem clo_X3_tellRule : zk_okc cX3_tellRule cl_X3_tellRule = true := by decide +kernel
def rm_X3_tellRule : Room := { frames := 4, cells := 0, slots := 0, locals := 98 }
def M_X3_tellRule : zk_M := (zk_lkc cl_X3_tellRule, zk_in [28], tb_X3, (none, 0, 0), (zk_lka [], fun _ _ => none, zk_in [], zk_in [], zk_lka []))
theorem MO_X3_tellRule : zk_MO RX3 cX3_tellRule (yX3_tellRule.name = "<init>") M_X3_tellRule := zk_MO_of clo_X3_tellRule rfl tbo_X3
theorem TO_X3_tellRule : zk_TO RX3 cX3_tellRule rm_X3_tellRule M_X3_tellRule := ⟨fun pc h => absurd (zk_in_mem h) List.not_mem_nil, fun pc h => absurd (zk_in_mem h) List.not_mem_nil, fun pc tag h => absurd (zk_lka_mem h) List.not_mem_nil⟩
theorem THo_X3_tellRule : ∀ pc X, M_X3_tellRule.2.2.2.2.1 pc = some X → zk_TH RX3 cX3_tellRule rm_X3_tellRule pc X := fun pc X h => absurd (zk_lka_mem h) List.not_mem_nil
def cl_X3_tell : List (Nat × List (Nat × Instr)) := [(24, [(0, .iload_n 3), (1, .ifCond .le 53), (4, .aload_n 0), (5, .getfield 43), (8, .sipush 210), (11, .if_icmp .ge 43), (14, .aload_n 0), (15, .getfield 9), (18, .aload_n 0), (19, .getfield 43), (22, .iload_n 1), (23, .iastore)]),
  (44, [(24, .aload_n 0), (25, .getfield 15), (28, .aload_n 0), (29, .getfield 43), (32, .iload_n 2), (33, .iastore), (34, .aload_n 0), (35, .getfield 18), (38, .aload_n 0), (39, .getfield 43), (42, .iload_n 3), (43, .iastore)]),
  (55, [(44, .aload_n 0), (45, .dup), (46, .getfield 43), (49, .iconst 1), (50, .iadd), (51, .putfield 43), (54, .return_)])]
theorem clo_X3_tell : zk_okc cX3_tell cl_X3_tell = true := by decide +kernel
def rm_X3_tell : Room := { frames := 0, cells := 0, slots := 0, locals := 0 }
def M_X3_tell : zk_M := (zk_lkc cl_X3_tell, zk_in [], tb_X3, (none, 0, 0), (zk_lka [], fun _ _ => none, zk_in [], zk_in [], zk_lka []))
theorem MO_X3_tell : zk_MO RX3 cX3_tell (yX3_tell.name = "<init>") M_X3_tell := zk_MO_of clo_X3_tell rfl tbo_X3
theorem TO_X3_tell : zk_TO RX3 cX3_tell rm_X3_tell M_X3_tell := ⟨fun pc h => absurd (zk_in_mem h) List.not_mem_nil, fun pc h => absurd (zk_in_mem h) List.not_mem_nil, fun pc tag h => absurd (zk_lka_mem h) List.not_mem_nil⟩
theorem THo_X3_tell : ∀ pc X, M_X3_tell.2.2.2.2.1 pc = some X → zk_TH RX3 cX3_tell rm_X3_tell pc X := fun pc X h => absurd (zk_lka_mem h) List.not_mem_nil
def cl_X3_excessOfDoor : List (Nat × List (Nat × Instr)) := [(20, [(0, .aload_n 0), (1, .getfield 47), (4, .iload_n 2), (5, .aaload), (6, .astore_n 3), (7, .aload_n 3), (8, .ifnonnull 7), (11, .iconst 0), (12, .goto 24), (15, .aload_n 1), (16, .getfield 29), (19, .iload_n 2)]),
  (37, [(20, .iaload), (21, .aload_n 0), (22, .getfield 34), (25, .iconst 2), (26, .iaload), (27, .aload_n 3), (28, .getfield 51), (31, .getfield 57), (34, .imul), (35, .isub), (36, .ireturn)])]
theorem clo_X3_excessOfDoor : zk_okc cX3_excessOfDoor cl_X3_excessOfDoor = true := by decide +kernel
def rm_X3_excessOfDoor : Room := { frames := 0, cells := 0, slots := 0, locals := 0 }
def M_X3_excessOfDoor : zk_M := (zk_lkc cl_X3_excessOfDoor, zk_in [], tb_X3, (some (.int), 0, 0), (zk_lka [], fun _ _ => none, zk_in [], zk_in [], zk_lka []))
theorem MO_X3_excessOfDoor : zk_MO RX3 cX3_excessOfDoor (yX3_excessOfDoor.name = "<init>") M_X3_excessOfDoor := zk_MO_of clo_X3_excessOfDoor rfl tbo_X3
theorem TO_X3_excessOfDoor : zk_TO RX3 cX3_excessOfDoor rm_X3_excessOfDoor M_X3_excessOfDoor := ⟨fun pc h => absurd (zk_in_mem h) List.not_mem_nil, fun pc h => absurd (zk_in_mem h) List.not_mem_nil, fun pc tag h => absurd (zk_lka_mem h) List.not_mem_nil⟩
theorem THo_X3_excessOfDoor : ∀ pc X, M_X3_excessOfDoor.2.2.2.2.1 pc = some X → zk_TH RX3 cX3_excessOfDoor rm_X3_excessOfDoor pc X := fun pc X h => absurd (zk_lka_mem h) List.not_mem_nil
def cl_X3_excessOfRoom : List (Nat × List (Nat × Instr)) := [(20, [(0, .aload_n 0), (1, .getfield 62), (4, .iload_n 3), (5, .aaload), (6, .astore 4), (8, .aload 4), (10, .ifnonnull 5), (13, .iconst 0), (14, .ireturn), (15, .aload_n 0), (16, .getfield 34), (19, .iload_n 2)]),
  (94, [(20, .iaload), (21, .istore 5), (23, .aload 4), (25, .getfield 66), (28, .aload 4), (30, .getfield 71), (33, .imul), (34, .istore 6), (36, .iload_n 2), (37, .tableswitch 201 0 9 #[55, 78, 201, 88, 100, 128, 145, 168, 201, 178]), (92, .aload_n 1), (93, .getfield 74)]),
  (116, [(96, .iload_n 3), (97, .iaload), (98, .iconst (-1)), (99, .if_icmp .ne 14), (102, .aload 4), (104, .getfield 77), (107, .iload 5), (109, .isub), (110, .goto 4), (113, .iconst 0), (114, .ireturn), (115, .aload_n 1)]),
  (136, [(116, .getfield 80), (119, .iload_n 3), (120, .iaload), (121, .iload 5), (123, .isub), (124, .ireturn), (125, .aload 4), (127, .getfield 77), (130, .iload 5), (132, .imul), (133, .iload 6), (135, .isub)]),
  (157, [(136, .ireturn), (137, .aload 4), (139, .getfield 83), (142, .ifCond .ne 21), (145, .iload 6), (147, .iload 5), (149, .imul), (150, .bipush 100), (152, .idiv), (153, .aload_n 0), (154, .aload 4), (156, .invokevirtual 86)]),
  (182, [(159, .isub), (160, .goto 4), (163, .iconst 0), (164, .ireturn), (165, .aload 4), (167, .getfield 66), (170, .aload 4), (172, .getfield 71), (175, .invokestatic 90), (178, .iload 5), (180, .isub), (181, .ireturn)]),
  (205, [(182, .aload_n 0), (183, .aload 4), (185, .invokevirtual 96), (188, .iconst 1), (189, .if_icmp .gt 14), (192, .aload 4), (194, .getfield 77), (197, .iload 5), (199, .isub), (200, .goto 4), (203, .iconst 0), (204, .ireturn)]),
  (225, [(205, .aload_n 1), (206, .getfield 74), (209, .iload_n 3), (210, .iaload), (211, .iload 5), (213, .isub), (214, .ireturn), (215, .aload 4), (217, .getfield 83), (220, .iconst 3), (221, .if_icmp .ne 15), (224, .aload_n 0)]),
  (240, [(225, .aload 4), (227, .invokevirtual 99), (230, .iload 5), (232, .isub), (233, .goto 4), (236, .iconst 0), (237, .ireturn), (238, .iconst 0), (239, .ireturn)])]
theorem clo_X3_excessOfRoom : zk_okc cX3_excessOfRoom cl_X3_excessOfRoom = true := by decide +kernel
def rm_X3_excessOfRoom : Room := { frames := 3, cells := 0, slots := 0, locals := 72 }
def M_X3_excessOfRoom : zk_M := (zk_lkc cl_X3_excessOfRoom, zk_in [], tb_X3, (some (.int), 0, 0), (zk_lka [], fun _ _ => none, zk_in [], zk_in [], zk_lka [(175, 0)]))
theorem MO_X3_excessOfRoom : zk_MO RX3 cX3_excessOfRoom (yX3_excessOfRoom.name = "<init>") M_X3_excessOfRoom := zk_MO_of clo_X3_excessOfRoom rfl tbo_X3
theorem TO_X3_excessOfRoom : zk_TO RX3 cX3_excessOfRoom rm_X3_excessOfRoom M_X3_excessOfRoom := ⟨fun pc h => absurd (zk_in_mem h) List.not_mem_nil, fun pc h => absurd (zk_in_mem h) List.not_mem_nil, fun pc tag h => by
    have h2 := zk_lka_mem h
    simp only [List.mem_cons, List.not_mem_nil, or_false, Prod.mk.injEq] at h2
    rcases h2 with ⟨rfl, rfl⟩
    exact ⟨90, by decide +kernel, zk_wi 201 (by decide +kernel) rfl, by decide, by decide⟩⟩
theorem THo_X3_excessOfRoom : ∀ pc X, M_X3_excessOfRoom.2.2.2.2.1 pc = some X → zk_TH RX3 cX3_excessOfRoom rm_X3_excessOfRoom pc X := fun pc X h => absurd (zk_lka_mem h) List.not_mem_nil
def cl_X3_countOf : List (Nat × List (Nat × Instr)) := [(18, [(0, .iconst 0), (1, .istore_n 2), (2, .iconst 0), (3, .istore_n 3), (4, .iload_n 3), (5, .aload_n 0), (6, .getfield 43), (9, .if_icmp .ge 22), (12, .aload_n 0), (13, .getfield 9), (16, .iload_n 3), (17, .iaload)]),
  (33, [(18, .iload_n 1), (19, .if_icmp .ne 6), (22, .iinc 2 1), (25, .iinc 3 1), (28, .goto (-24)), (31, .iload_n 2), (32, .ireturn)])]
theorem clo_X3_countOf : zk_okc cX3_countOf cl_X3_countOf = true := by decide +kernel
def rm_X3_countOf : Room := { frames := 0, cells := 0, slots := 0, locals := 0 }
def M_X3_countOf : zk_M := (zk_lkc cl_X3_countOf, zk_in [4], tb_X3, (some (.int), 0, 0), (zk_lka [], fun _ _ => none, zk_in [], zk_in [], zk_lka []))
theorem MO_X3_countOf : zk_MO RX3 cX3_countOf (yX3_countOf.name = "<init>") M_X3_countOf := zk_MO_of clo_X3_countOf rfl tbo_X3
theorem TO_X3_countOf : zk_TO RX3 cX3_countOf rm_X3_countOf M_X3_countOf := ⟨fun pc h => absurd (zk_in_mem h) List.not_mem_nil, fun pc h => absurd (zk_in_mem h) List.not_mem_nil, fun pc tag h => absurd (zk_lka_mem h) List.not_mem_nil⟩
theorem THo_X3_countOf : ∀ pc X, M_X3_countOf.2.2.2.2.1 pc = some X → zk_TH RX3 cX3_countOf rm_X3_countOf pc X := fun pc X h => absurd (zk_lka_mem h) List.not_mem_nil
def cl_X4_init : List (Nat × List (Nat × Instr)) := [(22, [(0, .aload_n 0), (1, .invokespecial 1), (4, .aload_n 0), (5, .iload_n 1), (6, .putfield 7), (9, .aload_n 0), (10, .iload 4), (12, .putfield 13), (15, .aload_n 0), (16, .iload 4), (18, .ifCond .eq 7), (21, .iload_n 2)]),
  (45, [(22, .goto 4), (25, .iload_n 3), (26, .putfield 17), (29, .aload_n 0), (30, .iload 4), (32, .ifCond .eq 7), (35, .iload_n 3), (36, .goto 4), (39, .iload_n 2), (40, .putfield 20), (43, .aload_n 0), (44, .iload 5)]),
  (50, [(46, .putfield 23), (49, .return_)])]
theorem clo_X4_init : zk_okc cX4_init cl_X4_init = true := by decide +kernel
def rm_X4_init : Room := { frames := 1, cells := 0, slots := 0, locals := 20 }
def M_X4_init : zk_M := (zk_lkc cl_X4_init, zk_in [], tbi_X4, (none, 0, 0), (zk_lka [], fun _ _ => none, zk_in [1], zk_in [], zk_lka []))
theorem MO_X4_init : zk_MO RX4 cX4_init (yX4_init.name = "<init>") M_X4_init := zk_MO_of clo_X4_init rfl (tbio_X4 rfl)
theorem TO_X4_init : zk_TO RX4 cX4_init rm_X4_init M_X4_init := ⟨fun pc h => by
    have h2 := zk_in_mem h
    simp only [List.mem_cons, List.not_mem_nil, or_false] at h2
    subst h2
    exact ⟨1, by decide +kernel, zk_wi 773 (by decide +kernel) rfl, by decide, by decide⟩, fun pc h => absurd (zk_in_mem h) List.not_mem_nil, fun pc tag h => absurd (zk_lka_mem h) List.not_mem_nil⟩
theorem THo_X4_init : ∀ pc X, M_X4_init.2.2.2.2.1 pc = some X → zk_TH RX4 cX4_init rm_X4_init pc X := fun pc X h => absurd (zk_lka_mem h) List.not_mem_nil
def cl_X4_isOnLineOf : List (Nat × List (Nat × Instr)) := [(24, [(0, .aload_n 1), (1, .getfield 26), (4, .aload_n 0), (5, .getfield 7), (8, .if_icmp .ne 37), (11, .aload_n 0), (12, .getfield 17), (15, .aload_n 1), (16, .aload_n 0), (17, .getfield 13), (20, .invokevirtual 29), (23, .if_icmp .eq 18)]),
  (47, [(26, .aload_n 0), (27, .getfield 17), (30, .aload_n 1), (31, .aload_n 0), (32, .getfield 13), (35, .invokevirtual 33), (38, .if_icmp .ne 7), (41, .iconst 1), (42, .goto 4), (45, .iconst 0), (46, .ireturn)])]
theorem clo_X4_isOnLineOf : zk_okc cX4_isOnLineOf cl_X4_isOnLineOf = true := by decide +kernel
def rm_X4_isOnLineOf : Room := { frames := 1, cells := 0, slots := 0, locals := 21 }
def M_X4_isOnLineOf : zk_M := (zk_lkc cl_X4_isOnLineOf, zk_in [], tb_X4, (some (.boolean), 0, 0), (zk_lka [], fun _ _ => none, zk_in [], zk_in [], zk_lka []))
theorem MO_X4_isOnLineOf : zk_MO RX4 cX4_isOnLineOf (yX4_isOnLineOf.name = "<init>") M_X4_isOnLineOf := zk_MO_of clo_X4_isOnLineOf rfl tbo_X4
theorem TO_X4_isOnLineOf : zk_TO RX4 cX4_isOnLineOf rm_X4_isOnLineOf M_X4_isOnLineOf := ⟨fun pc h => absurd (zk_in_mem h) List.not_mem_nil, fun pc h => absurd (zk_in_mem h) List.not_mem_nil, fun pc tag h => absurd (zk_lka_mem h) List.not_mem_nil⟩
theorem THo_X4_isOnLineOf : ∀ pc X, M_X4_isOnLineOf.2.2.2.2.1 pc = some X → zk_TH RX4 cX4_isOnLineOf rm_X4_isOnLineOf pc X := fun pc X h => absurd (zk_lka_mem h) List.not_mem_nil
def cl_X4_isOnSideOf : List (Nat × List (Nat × Instr)) := [(22, [(0, .aload_n 0), (1, .aload_n 1), (2, .invokevirtual 36), (5, .ifCond .eq 58), (8, .aload_n 0), (9, .getfield 20), (12, .aload_n 1), (13, .aload_n 0), (14, .getfield 13), (17, .ifCond .ne 7), (20, .iconst 1), (21, .goto 4)]),
  (48, [(24, .iconst 0), (25, .invokevirtual 29), (28, .if_icmp .lt 35), (31, .aload_n 0), (32, .getfield 20), (35, .aload_n 1), (36, .aload_n 0), (37, .getfield 13), (40, .ifCond .ne 7), (43, .iconst 1), (44, .goto 4), (47, .iconst 0)]),
  (65, [(48, .invokevirtual 33), (51, .aload_n 0), (52, .getfield 23), (55, .isub), (56, .if_icmp .gt 7), (59, .iconst 1), (60, .goto 4), (63, .iconst 0), (64, .ireturn)])]
theorem clo_X4_isOnSideOf : zk_okc cX4_isOnSideOf cl_X4_isOnSideOf = true := by decide +kernel
def rm_X4_isOnSideOf : Room := { frames := 2, cells := 0, slots := 0, locals := 42 }
def M_X4_isOnSideOf : zk_M := (zk_lkc cl_X4_isOnSideOf, zk_in [], tb_X4, (some (.boolean), 0, 0), (zk_lka [], fun _ _ => none, zk_in [], zk_in [], zk_lka []))
theorem MO_X4_isOnSideOf : zk_MO RX4 cX4_isOnSideOf (yX4_isOnSideOf.name = "<init>") M_X4_isOnSideOf := zk_MO_of clo_X4_isOnSideOf rfl tbo_X4
theorem TO_X4_isOnSideOf : zk_TO RX4 cX4_isOnSideOf rm_X4_isOnSideOf M_X4_isOnSideOf := ⟨fun pc h => absurd (zk_in_mem h) List.not_mem_nil, fun pc h => absurd (zk_in_mem h) List.not_mem_nil, fun pc tag h => absurd (zk_lka_mem h) List.not_mem_nil⟩
theorem THo_X4_isOnSideOf : ∀ pc X, M_X4_isOnSideOf.2.2.2.2.1 pc = some X → zk_TH RX4 cX4_isOnSideOf rm_X4_isOnSideOf pc X := fun pc X h => absurd (zk_lka_mem h) List.not_mem_nil
def cl_X4_touchesSideOf : List (Nat × List (Nat × Instr)) := [(22, [(0, .aload_n 0), (1, .aload_n 1), (2, .invokevirtual 36), (5, .ifCond .eq 58), (8, .aload_n 0), (9, .getfield 20), (12, .aload_n 1), (13, .aload_n 0), (14, .getfield 13), (17, .ifCond .ne 7), (20, .iconst 1), (21, .goto 4)]),
  (46, [(24, .iconst 0), (25, .invokevirtual 33), (28, .if_icmp .ge 35), (31, .aload_n 0), (32, .getfield 20), (35, .aload_n 0), (36, .getfield 23), (39, .iadd), (40, .aload_n 1), (41, .aload_n 0), (42, .getfield 13), (45, .ifCond .ne 7)]),
  (65, [(48, .iconst 1), (49, .goto 4), (52, .iconst 0), (53, .invokevirtual 29), (56, .if_icmp .le 7), (59, .iconst 1), (60, .goto 4), (63, .iconst 0), (64, .ireturn)])]
theorem clo_X4_touchesSideOf : zk_okc cX4_touchesSideOf cl_X4_touchesSideOf = true := by decide +kernel
def rm_X4_touchesSideOf : Room := { frames := 2, cells := 0, slots := 0, locals := 42 }
def M_X4_touchesSideOf : zk_M := (zk_lkc cl_X4_touchesSideOf, zk_in [], tb_X4, (some (.boolean), 0, 0), (zk_lka [], fun _ _ => none, zk_in [], zk_in [], zk_lka []))
theorem MO_X4_touchesSideOf : zk_MO RX4 cX4_touchesSideOf (yX4_touchesSideOf.name = "<init>") M_X4_touchesSideOf := zk_MO_of clo_X4_touchesSideOf rfl tbo_X4
theorem TO_X4_touchesSideOf : zk_TO RX4 cX4_touchesSideOf rm_X4_touchesSideOf M_X4_touchesSideOf := ⟨fun pc h => absurd (zk_in_mem h) List.not_mem_nil, fun pc h => absurd (zk_in_mem h) List.not_mem_nil, fun pc tag h => absurd (zk_lka_mem h) List.not_mem_nil⟩
theorem THo_X4_touchesSideOf : ∀ pc X, M_X4_touchesSideOf.2.2.2.2.1 pc = some X → zk_TH RX4 cX4_touchesSideOf rm_X4_touchesSideOf pc X := fun pc X h => absurd (zk_lka_mem h) List.not_mem_nil
def cl_X4_sharesWith : List (Nat × List (Nat × Instr)) := [(24, [(0, .aload_n 0), (1, .getfield 7), (4, .aload_n 1), (5, .getfield 7), (8, .if_icmp .ne 61), (11, .aload_n 0), (12, .getfield 13), (15, .aload_n 1), (16, .getfield 13), (19, .if_icmp .ne 50), (22, .aload_n 0), (23, .getfield 17)]),
  (50, [(26, .aload_n 1), (27, .getfield 17), (30, .if_icmp .ne 39), (33, .aload_n 0), (34, .getfield 20), (37, .aload_n 1), (38, .getfield 20), (41, .aload_n 1), (42, .getfield 23), (45, .iadd), (46, .if_icmp .ge 23), (49, .aload_n 1)]),
  (71, [(50, .getfield 20), (53, .aload_n 0), (54, .getfield 20), (57, .aload_n 0), (58, .getfield 23), (61, .iadd), (62, .if_icmp .ge 7), (65, .iconst 1), (66, .goto 4), (69, .iconst 0), (70, .ireturn)])]
theorem clo_X4_sharesWith : zk_okc cX4_sharesWith cl_X4_sharesWith = true := by decide +kernel
def rm_X4_sharesWith : Room := { frames := 0, cells := 0, slots := 0, locals := 0 }
def M_X4_sharesWith : zk_M := (zk_lkc cl_X4_sharesWith, zk_in [], tb_X4, (some (.boolean), 0, 0), (zk_lka [], fun _ _ => none, zk_in [], zk_in [], zk_lka []))
theorem MO_X4_sharesWith : zk_MO RX4 cX4_sharesWith (yX4_sharesWith.name = "<init>") M_X4_sharesWith := zk_MO_of clo_X4_sharesWith rfl tbo_X4
theorem TO_X4_sharesWith : zk_TO RX4 cX4_sharesWith rm_X4_sharesWith M_X4_sharesWith := ⟨fun pc h => absurd (zk_in_mem h) List.not_mem_nil, fun pc h => absurd (zk_in_mem h) List.not_mem_nil, fun pc tag h => absurd (zk_lka_mem h) List.not_mem_nil⟩
theorem THo_X4_sharesWith : ∀ pc X, M_X4_sharesWith.2.2.2.2.1 pc = some X → zk_TH RX4 cX4_sharesWith rm_X4_sharesWith pc X := fun pc X h => absurd (zk_lka_mem h) List.not_mem_nil
def cl_X4_middleX : List (Nat × List (Nat × Instr)) := [(22, [(0, .aload_n 0), (1, .getfield 13), (4, .ifCond .eq 12), (7, .iconst 2), (8, .aload_n 0), (9, .getfield 17), (12, .imul), (13, .goto 14), (16, .iconst 2), (17, .aload_n 0), (18, .getfield 20), (21, .imul)]),
  (28, [(22, .aload_n 0), (23, .getfield 23), (26, .iadd), (27, .ireturn)])]
theorem clo_X4_middleX : zk_okc cX4_middleX cl_X4_middleX = true := by decide +kernel
def rm_X4_middleX : Room := { frames := 0, cells := 0, slots := 0, locals := 0 }
def M_X4_middleX : zk_M := (zk_lkc cl_X4_middleX, zk_in [], tb_X4, (some (.int), 0, 0), (zk_lka [], fun _ _ => none, zk_in [], zk_in [], zk_lka []))
theorem MO_X4_middleX : zk_MO RX4 cX4_middleX (yX4_middleX.name = "<init>") M_X4_middleX := zk_MO_of clo_X4_middleX rfl tbo_X4
theorem TO_X4_middleX : zk_TO RX4 cX4_middleX rm_X4_middleX M_X4_middleX := ⟨fun pc h => absurd (zk_in_mem h) List.not_mem_nil, fun pc h => absurd (zk_in_mem h) List.not_mem_nil, fun pc tag h => absurd (zk_lka_mem h) List.not_mem_nil⟩
theorem THo_X4_middleX : ∀ pc X, M_X4_middleX.2.2.2.2.1 pc = some X → zk_TH RX4 cX4_middleX rm_X4_middleX pc X := fun pc X h => absurd (zk_lka_mem h) List.not_mem_nil
def cl_X4_middleY : List (Nat × List (Nat × Instr)) := [(22, [(0, .aload_n 0), (1, .getfield 13), (4, .ifCond .eq 17), (7, .iconst 2), (8, .aload_n 0), (9, .getfield 20), (12, .imul), (13, .aload_n 0), (14, .getfield 23), (17, .iadd), (18, .goto 9), (21, .iconst 2)]),
  (28, [(22, .aload_n 0), (23, .getfield 17), (26, .imul), (27, .ireturn)])]
theorem clo_X4_middleY : zk_okc cX4_middleY cl_X4_middleY = true := by decide +kernel
def rm_X4_middleY : Room := { frames := 0, cells := 0, slots := 0, locals := 0 }
def M_X4_middleY : zk_M := (zk_lkc cl_X4_middleY, zk_in [], tb_X4, (some (.int), 0, 0), (zk_lka [], fun _ _ => none, zk_in [], zk_in [], zk_lka []))
theorem MO_X4_middleY : zk_MO RX4 cX4_middleY (yX4_middleY.name = "<init>") M_X4_middleY := zk_MO_of clo_X4_middleY rfl tbo_X4
theorem TO_X4_middleY : zk_TO RX4 cX4_middleY rm_X4_middleY M_X4_middleY := ⟨fun pc h => absurd (zk_in_mem h) List.not_mem_nil, fun pc h => absurd (zk_in_mem h) List.not_mem_nil, fun pc tag h => absurd (zk_lka_mem h) List.not_mem_nil⟩
theorem THo_X4_middleY : ∀ pc X, M_X4_middleY.2.2.2.2.1 pc = some X → zk_TH RX4 cX4_middleY rm_X4_middleY pc X := fun pc X h => absurd (zk_lka_mem h) List.not_mem_nil
def cl_X5_init : List (Nat × List (Nat × Instr)) := [(24, [(0, .aload_n 0), (1, .invokespecial 3), (4, .aload_n 0), (5, .bipush 20), (7, .anewarray 9), (10, .putfield 11), (13, .aload_n 0), (14, .bipush 40), (16, .anewarray 17), (19, .putfield 19), (22, .aload_n 0), (23, .bipush 40)]),
  (54, [(25, .anewarray 23), (28, .putfield 25), (31, .aload_n 0), (32, .bipush 10), (34, .anewarray 29), (37, .putfield 31), (40, .aload_n 0), (41, .getstatic 35), (44, .invokevirtual 39), (47, .checkcast 40), (50, .putfield 44), (53, .return_)])]
theorem clo_X5_init : zk_okc cX5_init cl_X5_init = true := by decide +kernel
def rm_X5_init : Room := { frames := 1, cells := 5, slots := 120, locals := 22 }
def M_X5_init : zk_M := (zk_lkc cl_X5_init, zk_in [], tbi_X5, (none, 5, 120), (zk_lka [], fun _ _ => none, zk_in [1], zk_in [41], zk_lka []))
theorem MO_X5_init : zk_MO RX5 cX5_init (yX5_init.name = "<init>") M_X5_init := zk_MO_of clo_X5_init rfl (tbio_X5 rfl)
theorem TO_X5_init : zk_TO RX5 cX5_init rm_X5_init M_X5_init := ⟨fun pc h => by
    have h2 := zk_in_mem h
    simp only [List.mem_cons, List.not_mem_nil, or_false] at h2
    subst h2
    exact ⟨3, by decide +kernel, zk_wi 425 (by decide +kernel) rfl, by decide, by decide⟩, fun pc h => by
    have h2 := zk_in_mem h
    simp only [List.mem_cons, List.not_mem_nil, or_false] at h2
    subst h2
    exact ⟨rfl, by decide +kernel, by decide +kernel, by decide +kernel, by decide, by decide⟩, fun pc tag h => absurd (zk_lka_mem h) List.not_mem_nil⟩
theorem THo_X5_init : ∀ pc X, M_X5_init.2.2.2.2.1 pc = some X → zk_TH RX5 cX5_init rm_X5_init pc X := fun pc X h => absurd (zk_lka_mem h) List.not_mem_nil
def cl_X5_exitAt : List (Nat × List (Nat × Instr)) := [(20, [(0, .iload_n 1), (1, .ifCond .lt 9), (4, .iload_n 1), (5, .bipush 50), (7, .if_icmp .lt 5), (10, .aconst_null), (11, .areturn), (12, .iload_n 1), (13, .bipush 40), (15, .if_icmp .ge 10), (18, .aload_n 0), (19, .getfield 19)]),
  (35, [(22, .iload_n 1), (23, .aaload), (24, .areturn), (25, .aload_n 0), (26, .getfield 31), (29, .iload_n 1), (30, .bipush 40), (32, .isub), (33, .aaload), (34, .areturn)])]
theorem clo_X5_exitAt : zk_okc cX5_exitAt cl_X5_exitAt = true := by decide +kernel
def rm_X5_exitAt : Room := { frames := 0, cells := 0, slots := 0, locals := 0 }
def M_X5_exitAt : zk_M := (zk_lkc cl_X5_exitAt, zk_in [], tb_X5, (some ((.object "ClerestoryPlan$Exit")), 0, 0), (zk_lka [], fun _ _ => none, zk_in [], zk_in [], zk_lka []))
theorem MO_X5_exitAt : zk_MO RX5 cX5_exitAt (yX5_exitAt.name = "<init>") M_X5_exitAt := zk_MO_of clo_X5_exitAt rfl tbo_X5
theorem TO_X5_exitAt : zk_TO RX5 cX5_exitAt rm_X5_exitAt M_X5_exitAt := ⟨fun pc h => absurd (zk_in_mem h) List.not_mem_nil, fun pc h => absurd (zk_in_mem h) List.not_mem_nil, fun pc tag h => absurd (zk_lka_mem h) List.not_mem_nil⟩
theorem THo_X5_exitAt : ∀ pc X, M_X5_exitAt.2.2.2.2.1 pc = some X → zk_TH RX5 cX5_exitAt rm_X5_exitAt pc X := fun pc X h => absurd (zk_lka_mem h) List.not_mem_nil
def cl_X5_countExits : List (Nat × List (Nat × Instr)) := [(21, [(0, .iconst 0), (1, .istore_n 3), (2, .iload_n 1), (3, .istore 4), (5, .iload 4), (7, .iload_n 2), (8, .if_icmp .ge 21), (11, .aload_n 0), (12, .iload 4), (14, .invokevirtual 47), (17, .ifnull 6), (20, .iinc 3 1)]),
  (31, [(23, .iinc 4 1), (26, .goto (-21)), (29, .iload_n 3), (30, .ireturn)])]
theorem clo_X5_countExits : zk_okc cX5_countExits cl_X5_countExits = true := by decide +kernel
def rm_X5_countExits : Room := { frames := 1, cells := 0, slots := 0, locals := 21 }
def M_X5_countExits : zk_M := (zk_lkc cl_X5_countExits, zk_in [5], tb_X5, (some (.int), 0, 0), (zk_lka [], fun _ _ => none, zk_in [], zk_in [], zk_lka []))
theorem MO_X5_countExits : zk_MO RX5 cX5_countExits (yX5_countExits.name = "<init>") M_X5_countExits := zk_MO_of clo_X5_countExits rfl tbo_X5
theorem TO_X5_countExits : zk_TO RX5 cX5_countExits rm_X5_countExits M_X5_countExits := ⟨fun pc h => absurd (zk_in_mem h) List.not_mem_nil, fun pc h => absurd (zk_in_mem h) List.not_mem_nil, fun pc tag h => absurd (zk_lka_mem h) List.not_mem_nil⟩
theorem THo_X5_countExits : ∀ pc X, M_X5_countExits.2.2.2.2.1 pc = some X → zk_TH RX5 cX5_countExits rm_X5_countExits pc X := fun pc X h => absurd (zk_lka_mem h) List.not_mem_nil
def cl_X5_countOpen : List (Nat × List (Nat × Instr)) := [(18, [(0, .iconst 0), (1, .istore_n 2), (2, .iconst 0), (3, .istore_n 3), (4, .iload_n 3), (5, .bipush 50), (7, .if_icmp .ge 41), (10, .aload_n 0), (11, .iload_n 3), (12, .invokevirtual 47), (15, .astore 4), (17, .aload 4)]),
  (49, [(19, .ifnull 23), (22, .aload 4), (24, .getfield 51), (27, .ifCond .ne 15), (30, .aload 4), (32, .aload_n 1), (33, .invokevirtual 57), (36, .ifCond .eq 6), (39, .iinc 2 1), (42, .iinc 3 1), (45, .goto (-41)), (48, .iload_n 2)]),
  (50, [(49, .ireturn)])]
theorem clo_X5_countOpen : zk_okc cX5_countOpen cl_X5_countOpen = true := by decide +kernel
def rm_X5_countOpen : Room := { frames := 1, cells := 0, slots := 0, locals := 21 }
def M_X5_countOpen : zk_M := (zk_lkc cl_X5_countOpen, zk_in [4], tb_X5, (some (.int), 0, 0), (zk_lka [], fun _ _ => none, zk_in [], zk_in [], zk_lka []))
theorem MO_X5_countOpen : zk_MO RX5 cX5_countOpen (yX5_countOpen.name = "<init>") M_X5_countOpen := zk_MO_of clo_X5_countOpen rfl tbo_X5
theorem TO_X5_countOpen : zk_TO RX5 cX5_countOpen rm_X5_countOpen M_X5_countOpen := ⟨fun pc h => absurd (zk_in_mem h) List.not_mem_nil, fun pc h => absurd (zk_in_mem h) List.not_mem_nil, fun pc tag h => absurd (zk_lka_mem h) List.not_mem_nil⟩
theorem THo_X5_countOpen : ∀ pc X, M_X5_countOpen.2.2.2.2.1 pc = some X → zk_TH RX5 cX5_countOpen rm_X5_countOpen pc X := fun pc X h => absurd (zk_lka_mem h) List.not_mem_nil
def cl_X5_windowsWide : List (Nat × List (Nat × Instr)) := [(17, [(0, .iconst 0), (1, .istore_n 2), (2, .aload_n 0), (3, .getfield 25), (6, .astore_n 3), (7, .aload_n 3), (8, .arraylength), (9, .istore 4), (11, .iconst 0), (12, .istore 5), (14, .iload 5), (16, .iload 4)]),
  (42, [(18, .if_icmp .ge 40), (21, .aload_n 3), (22, .iload 5), (24, .aaload), (25, .astore 6), (27, .aload 6), (29, .ifnull 23), (32, .aload 6), (34, .getfield 61), (37, .aload_n 1), (38, .if_acmp .ne 14), (41, .iload_n 2)]),
  (60, [(42, .aload 6), (44, .getfield 65), (47, .getfield 69), (50, .iadd), (51, .istore_n 2), (52, .iinc 5 1), (55, .goto (-41)), (58, .iload_n 2), (59, .ireturn)])]
theorem clo_X5_windowsWide : zk_okc cX5_windowsWide cl_X5_windowsWide = true := by decide +kernel
def rm_X5_windowsWide : Room := { frames := 0, cells := 0, slots := 0, locals := 0 }
def M_X5_windowsWide : zk_M := (zk_lkc cl_X5_windowsWide, zk_in [14], tb_X5, (some (.int), 0, 0), (zk_lka [], fun _ _ => none, zk_in [], zk_in [], zk_lka []))
theorem MO_X5_windowsWide : zk_MO RX5 cX5_windowsWide (yX5_windowsWide.name = "<init>") M_X5_windowsWide := zk_MO_of clo_X5_windowsWide rfl tbo_X5
theorem TO_X5_windowsWide : zk_TO RX5 cX5_windowsWide rm_X5_windowsWide M_X5_windowsWide := ⟨fun pc h => absurd (zk_in_mem h) List.not_mem_nil, fun pc h => absurd (zk_in_mem h) List.not_mem_nil, fun pc tag h => absurd (zk_lka_mem h) List.not_mem_nil⟩
theorem THo_X5_windowsWide : ∀ pc X, M_X5_windowsWide.2.2.2.2.1 pc = some X → zk_TH RX5 cX5_windowsWide rm_X5_windowsWide pc X := fun pc X h => absurd (zk_lka_mem h) List.not_mem_nil
def cl_X5_unitsAboveDwellings : List (Nat × List (Nat × Instr)) := [(17, [(0, .iconst 0), (1, .istore_n 2), (2, .aload_n 0), (3, .getfield 11), (6, .astore_n 3), (7, .aload_n 3), (8, .arraylength), (9, .istore 4), (11, .iconst 0), (12, .istore 5), (14, .iload 5), (16, .iload 4)]),
  (43, [(18, .if_icmp .ge 51), (21, .aload_n 3), (22, .iload 5), (24, .aaload), (25, .astore 6), (27, .aload 6), (29, .ifnull 34), (32, .aload 6), (34, .getfield 75), (37, .ifCond .ne 26), (40, .aload 6), (42, .getfield 78)]),
  (64, [(45, .aload_n 1), (46, .getfield 78), (49, .iconst 1), (50, .isub), (51, .if_icmp .ne 12), (54, .iload_n 2), (55, .aload_n 1), (56, .aload 6), (58, .invokevirtual 81), (61, .iadd), (62, .istore_n 2), (63, .iinc 5 1)]),
  (71, [(66, .goto (-52)), (69, .iload_n 2), (70, .ireturn)])]
theorem clo_X5_unitsAboveDwellings : zk_okc cX5_unitsAboveDwellings cl_X5_unitsAboveDwellings = true := by decide +kernel
def rm_X5_unitsAboveDwellings : Room := { frames := 2, cells := 0, slots := 0, locals := 46 }
def M_X5_unitsAboveDwellings : zk_M := (zk_lkc cl_X5_unitsAboveDwellings, zk_in [14], tb_X5, (some (.int), 0, 0), (zk_lka [], fun _ _ => none, zk_in [], zk_in [], zk_lka []))
theorem MO_X5_unitsAboveDwellings : zk_MO RX5 cX5_unitsAboveDwellings (yX5_unitsAboveDwellings.name = "<init>") M_X5_unitsAboveDwellings := zk_MO_of clo_X5_unitsAboveDwellings rfl tbo_X5
theorem TO_X5_unitsAboveDwellings : zk_TO RX5 cX5_unitsAboveDwellings rm_X5_unitsAboveDwellings M_X5_unitsAboveDwellings := ⟨fun pc h => absurd (zk_in_mem h) List.not_mem_nil, fun pc h => absurd (zk_in_mem h) List.not_mem_nil, fun pc tag h => absurd (zk_lka_mem h) List.not_mem_nil⟩
theorem THo_X5_unitsAboveDwellings : ∀ pc X, M_X5_unitsAboveDwellings.2.2.2.2.1 pc = some X → zk_TH RX5 cX5_unitsAboveDwellings rm_X5_unitsAboveDwellings pc X := fun pc X h => absurd (zk_lka_mem h) List.not_mem_nil
def cl_X5_isInTheWay : List (Nat × List (Nat × Instr)) := [(18, [(0, .aload_n 0), (1, .getfield 11), (4, .astore_n 2), (5, .aload_n 2), (6, .arraylength), (7, .istore_n 3), (8, .iconst 0), (9, .istore 4), (11, .iload 4), (13, .iload_n 3), (14, .if_icmp .ge 43), (17, .aload_n 2)]),
  (43, [(18, .iload 4), (20, .aaload), (21, .astore 5), (23, .aload 5), (25, .ifnull 26), (28, .aload 5), (30, .getfield 78), (33, .aload_n 1), (34, .getfield 78), (37, .if_icmp .ne 14), (40, .aload 5), (42, .aload_n 1)]),
  (59, [(43, .invokevirtual 81), (46, .ifCond .le 5), (49, .iconst 1), (50, .ireturn), (51, .iinc 4 1), (54, .goto (-43)), (57, .iconst 0), (58, .ireturn)])]
theorem clo_X5_isInTheWay : zk_okc cX5_isInTheWay cl_X5_isInTheWay = true := by decide +kernel
def rm_X5_isInTheWay : Room := { frames := 2, cells := 0, slots := 0, locals := 46 }
def M_X5_isInTheWay : zk_M := (zk_lkc cl_X5_isInTheWay, zk_in [11], tb_X5, (some (.boolean), 0, 0), (zk_lka [], fun _ _ => none, zk_in [], zk_in [], zk_lka []))
theorem MO_X5_isInTheWay : zk_MO RX5 cX5_isInTheWay (yX5_isInTheWay.name = "<init>") M_X5_isInTheWay := zk_MO_of clo_X5_isInTheWay rfl tbo_X5
theorem TO_X5_isInTheWay : zk_TO RX5 cX5_isInTheWay rm_X5_isInTheWay M_X5_isInTheWay := ⟨fun pc h => absurd (zk_in_mem h) List.not_mem_nil, fun pc h => absurd (zk_in_mem h) List.not_mem_nil, fun pc tag h => absurd (zk_lka_mem h) List.not_mem_nil⟩
theorem THo_X5_isInTheWay : ∀ pc X, M_X5_isInTheWay.2.2.2.2.1 pc = some X → zk_TH RX5 cX5_isInTheWay rm_X5_isInTheWay pc X := fun pc X h => absurd (zk_lka_mem h) List.not_mem_nil
def cl_X5_hasPlaceFor : List (Nat × List (Nat × Instr)) := [(18, [(0, .aload_n 1), (1, .aload_n 2), (2, .invokevirtual 85), (5, .ifCond .ne 5), (8, .iconst 0), (9, .ireturn), (10, .aload_n 3), (11, .ifnonnull 20), (14, .aload_n 0), (15, .aload_n 1), (16, .aload_n 2), (17, .invokevirtual 88)]),
  (44, [(20, .ifCond .ne 7), (23, .iconst 1), (24, .goto 12), (27, .iconst 0), (28, .goto 8), (31, .aload_n 1), (32, .aload_n 3), (33, .invokevirtual 85), (36, .istore 4), (38, .iload 4), (40, .ifCond .eq 15), (43, .aload_n 0)]),
  (57, [(44, .aload_n 1), (45, .invokevirtual 92), (48, .ifCond .eq 7), (51, .iconst 1), (52, .goto 4), (55, .iconst 0), (56, .ireturn)])]
theorem clo_X5_hasPlaceFor : zk_okc cX5_hasPlaceFor cl_X5_hasPlaceFor = true := by decide +kernel
def rm_X5_hasPlaceFor : Room := { frames := 4, cells := 0, slots := 0, locals := 89 }
def M_X5_hasPlaceFor : zk_M := (zk_lkc cl_X5_hasPlaceFor, zk_in [], tb_X5, (some (.boolean), 0, 0), (zk_lka [], fun _ _ => none, zk_in [], zk_in [], zk_lka []))
theorem MO_X5_hasPlaceFor : zk_MO RX5 cX5_hasPlaceFor (yX5_hasPlaceFor.name = "<init>") M_X5_hasPlaceFor := zk_MO_of clo_X5_hasPlaceFor rfl tbo_X5
theorem TO_X5_hasPlaceFor : zk_TO RX5 cX5_hasPlaceFor rm_X5_hasPlaceFor M_X5_hasPlaceFor := ⟨fun pc h => absurd (zk_in_mem h) List.not_mem_nil, fun pc h => absurd (zk_in_mem h) List.not_mem_nil, fun pc tag h => absurd (zk_lka_mem h) List.not_mem_nil⟩
theorem THo_X5_hasPlaceFor : ∀ pc X, M_X5_hasPlaceFor.2.2.2.2.1 pc = some X → zk_TH RX5 cX5_hasPlaceFor rm_X5_hasPlaceFor pc X := fun pc X h => absurd (zk_lka_mem h) List.not_mem_nil
def cl_X5_touchesOthers : List (Nat × List (Nat × Instr)) := [(20, [(0, .aload_n 0), (1, .getfield 11), (4, .astore_n 3), (5, .aload_n 3), (6, .arraylength), (7, .istore 4), (9, .iconst 0), (10, .istore 5), (12, .iload 5), (14, .iload 4), (16, .if_icmp .ge 37), (19, .aload_n 3)]),
  (43, [(20, .iload 5), (22, .aaload), (23, .astore 6), (25, .aload 6), (27, .ifnull 20), (30, .aload 6), (32, .aload_n 2), (33, .if_acmp .eq 14), (36, .aload_n 1), (37, .aload 6), (39, .invokevirtual 96), (42, .ifCond .eq 5)]),
  (55, [(45, .iconst 1), (46, .ireturn), (47, .iinc 5 1), (50, .goto (-38)), (53, .iconst 0), (54, .ireturn)])]
theorem clo_X5_touchesOthers : zk_okc cX5_touchesOthers cl_X5_touchesOthers = true := by decide +kernel
def rm_X5_touchesOthers : Room := { frames := 3, cells := 0, slots := 0, locals := 63 }
def M_X5_touchesOthers : zk_M := (zk_lkc cl_X5_touchesOthers, zk_in [12], tb_X5, (some (.boolean), 0, 0), (zk_lka [], fun _ _ => none, zk_in [], zk_in [], zk_lka []))
theorem MO_X5_touchesOthers : zk_MO RX5 cX5_touchesOthers (yX5_touchesOthers.name = "<init>") M_X5_touchesOthers := zk_MO_of clo_X5_touchesOthers rfl tbo_X5
theorem TO_X5_touchesOthers : zk_TO RX5 cX5_touchesOthers rm_X5_touchesOthers M_X5_touchesOthers := ⟨fun pc h => absurd (zk_in_mem h) List.not_mem_nil, fun pc h => absurd (zk_in_mem h) List.not_mem_nil, fun pc tag h => absurd (zk_lka_mem h) List.not_mem_nil⟩
theorem THo_X5_touchesOthers : ∀ pc X, M_X5_touchesOthers.2.2.2.2.1 pc = some X → zk_TH RX5 cX5_touchesOthers rm_X5_touchesOthers pc X := fun pc X h => absurd (zk_lka_mem h) List.not_mem_nil
def cl_X5_isFree : List (Nat × List (Nat × Instr)) := [(18, [(0, .aload_n 0), (1, .getfield 19), (4, .astore_n 2), (5, .aload_n 2), (6, .arraylength), (7, .istore_n 3), (8, .iconst 0), (9, .istore 4), (11, .iload 4), (13, .iload_n 3), (14, .if_icmp .ge 34), (17, .aload_n 2)]),
  (42, [(18, .iload 4), (20, .aaload), (21, .astore 5), (23, .aload 5), (25, .ifnull 17), (28, .aload 5), (30, .getfield 99), (33, .aload_n 1), (34, .invokevirtual 100), (37, .ifCond .eq 5), (40, .iconst 0), (41, .ireturn)]),
  (62, [(42, .iinc 4 1), (45, .goto (-34)), (48, .aload_n 0), (49, .getfield 25), (52, .astore_n 2), (53, .aload_n 2), (54, .arraylength), (55, .istore_n 3), (56, .iconst 0), (57, .istore 4), (59, .iload 4), (61, .iload_n 3)]),
  (86, [(62, .if_icmp .ge 34), (65, .aload_n 2), (66, .iload 4), (68, .aaload), (69, .astore 5), (71, .aload 5), (73, .ifnull 17), (76, .aload 5), (78, .getfield 65), (81, .aload_n 1), (82, .invokevirtual 100), (85, .ifCond .eq 5)]),
  (98, [(88, .iconst 0), (89, .ireturn), (90, .iinc 4 1), (93, .goto (-34)), (96, .iconst 1), (97, .ireturn)])]
theorem clo_X5_isFree : zk_okc cX5_isFree cl_X5_isFree = true := by decide +kernel
def rm_X5_isFree : Room := { frames := 1, cells := 0, slots := 0, locals := 21 }
def M_X5_isFree : zk_M := (zk_lkc cl_X5_isFree, zk_in [11, 59], tb_X5, (some (.boolean), 0, 0), (zk_lka [], fun _ _ => none, zk_in [], zk_in [], zk_lka []))
theorem MO_X5_isFree : zk_MO RX5 cX5_isFree (yX5_isFree.name = "<init>") M_X5_isFree := zk_MO_of clo_X5_isFree rfl tbo_X5
theorem TO_X5_isFree : zk_TO RX5 cX5_isFree rm_X5_isFree M_X5_isFree := ⟨fun pc h => absurd (zk_in_mem h) List.not_mem_nil, fun pc h => absurd (zk_in_mem h) List.not_mem_nil, fun pc tag h => absurd (zk_lka_mem h) List.not_mem_nil⟩
theorem THo_X5_isFree : ∀ pc X, M_X5_isFree.2.2.2.2.1 pc = some X → zk_TH RX5 cX5_isFree rm_X5_isFree pc X := fun pc X h => absurd (zk_lka_mem h) List.not_mem_nil
def cl_X5_dropAllOf : List (Nat × List (Nat × Instr)) := [(17, [(0, .iconst 0), (1, .istore_n 2), (2, .iconst 0), (3, .istore_n 3), (4, .iload_n 3), (5, .bipush 40), (7, .if_icmp .ge 41), (10, .aload_n 0), (11, .getfield 19), (14, .iload_n 3), (15, .aaload), (16, .ifnull 26)]),
  (39, [(19, .aload_n 0), (20, .getfield 19), (23, .iload_n 3), (24, .aaload), (25, .aload_n 1), (26, .invokevirtual 103), (29, .ifCond .eq 13), (32, .aload_n 0), (33, .getfield 19), (36, .iload_n 3), (37, .aconst_null), (38, .aastore)]),
  (62, [(39, .iinc 2 1), (42, .iinc 3 1), (45, .goto (-41)), (48, .iconst 0), (49, .istore_n 3), (50, .iload_n 3), (51, .bipush 40), (53, .if_icmp .ge 41), (56, .aload_n 0), (57, .getfield 25), (60, .iload_n 3), (61, .aaload)]),
  (84, [(62, .ifnull 26), (65, .aload_n 0), (66, .getfield 25), (69, .iload_n 3), (70, .aaload), (71, .getfield 61), (74, .aload_n 1), (75, .if_acmp .ne 13), (78, .aload_n 0), (79, .getfield 25), (82, .iload_n 3), (83, .aconst_null)]),
  (107, [(84, .aastore), (85, .iinc 2 1), (88, .iinc 3 1), (91, .goto (-41)), (94, .iconst 0), (95, .istore_n 3), (96, .iload_n 3), (97, .bipush 10), (99, .if_icmp .ge 41), (102, .aload_n 0), (103, .getfield 31), (106, .iload_n 3)]),
  (129, [(107, .aaload), (108, .ifnull 26), (111, .aload_n 0), (112, .getfield 31), (115, .iload_n 3), (116, .aaload), (117, .aload_n 1), (118, .invokevirtual 104), (121, .ifCond .eq 13), (124, .aload_n 0), (125, .getfield 31), (128, .iload_n 3)]),
  (142, [(129, .aconst_null), (130, .aastore), (131, .iinc 2 1), (134, .iinc 3 1), (137, .goto (-41)), (140, .iload_n 2), (141, .ireturn)])]
theorem clo_X5_dropAllOf : zk_okc cX5_dropAllOf cl_X5_dropAllOf = true := by decide +kernel
def rm_X5_dropAllOf : Room := { frames := 1, cells := 0, slots := 0, locals := 21 }
def M_X5_dropAllOf : zk_M := (zk_lkc cl_X5_dropAllOf, zk_in [4, 50, 96], tb_X5, (some (.int), 0, 0), (zk_lka [], fun _ _ => none, zk_in [], zk_in [], zk_lka []))
theorem MO_X5_dropAllOf : zk_MO RX5 cX5_dropAllOf (yX5_dropAllOf.name = "<init>") M_X5_dropAllOf := zk_MO_of clo_X5_dropAllOf rfl tbo_X5
theorem TO_X5_dropAllOf : zk_TO RX5 cX5_dropAllOf rm_X5_dropAllOf M_X5_dropAllOf := ⟨fun pc h => absurd (zk_in_mem h) List.not_mem_nil, fun pc h => absurd (zk_in_mem h) List.not_mem_nil, fun pc tag h => absurd (zk_lka_mem h) List.not_mem_nil⟩
theorem THo_X5_dropAllOf : ∀ pc X, M_X5_dropAllOf.2.2.2.2.1 pc = some X → zk_TH RX5 cX5_dropAllOf rm_X5_dropAllOf pc X := fun pc X h => absurd (zk_lka_mem h) List.not_mem_nil
def cl_X6_init : List (Nat × List (Nat × Instr)) := [(20, [(0, .aload_n 0), (1, .invokespecial 1), (4, .aload_n 0), (5, .iload_n 1), (6, .putfield 7), (9, .aload_n 0), (10, .iload_n 2), (11, .putfield 13), (14, .aload_n 0), (15, .iload_n 3), (16, .putfield 16), (19, .aload_n 0)]),
  (44, [(20, .iload 4), (22, .putfield 19), (25, .aload_n 0), (26, .iload 5), (28, .putfield 22), (31, .aload_n 0), (32, .iload 6), (34, .putfield 25), (37, .aload_n 0), (38, .iload 7), (40, .putfield 28), (43, .return_)])]
theorem clo_X6_init : zk_okc cX6_init cl_X6_init = true := by decide +kernel
def rm_X6_init : Room := { frames := 1, cells := 0, slots := 0, locals := 20 }
def M_X6_init : zk_M := (zk_lkc cl_X6_init, zk_in [], tbi_X6, (none, 0, 0), (zk_lka [], fun _ _ => none, zk_in [1], zk_in [], zk_lka []))
theorem MO_X6_init : zk_MO RX6 cX6_init (yX6_init.name = "<init>") M_X6_init := zk_MO_of clo_X6_init rfl (tbio_X6 rfl)
theorem TO_X6_init : zk_TO RX6 cX6_init rm_X6_init M_X6_init := ⟨fun pc h => by
    have h2 := zk_in_mem h
    simp only [List.mem_cons, List.not_mem_nil, or_false] at h2
    subst h2
    exact ⟨1, by decide +kernel, zk_wi 672 (by decide +kernel) rfl, by decide, by decide⟩, fun pc h => absurd (zk_in_mem h) List.not_mem_nil, fun pc tag h => absurd (zk_lka_mem h) List.not_mem_nil⟩
theorem THo_X6_init : ∀ pc X, M_X6_init.2.2.2.2.1 pc = some X → zk_TH RX6 cX6_init rm_X6_init pc X := fun pc X h => absurd (zk_lka_mem h) List.not_mem_nil
def cl_X6_lowest : List (Nat × List (Nat × Instr)) := [(16, [(0, .iload_n 1), (1, .ifCond .eq 10), (4, .aload_n 0), (5, .getfield 16), (8, .goto 7), (11, .aload_n 0), (12, .getfield 19), (15, .ireturn)])]
theorem clo_X6_lowest : zk_okc cX6_lowest cl_X6_lowest = true := by decide +kernel
def rm_X6_lowest : Room := { frames := 0, cells := 0, slots := 0, locals := 0 }
def M_X6_lowest : zk_M := (zk_lkc cl_X6_lowest, zk_in [], tb_X6, (some (.int), 0, 0), (zk_lka [], fun _ _ => none, zk_in [], zk_in [], zk_lka []))
theorem MO_X6_lowest : zk_MO RX6 cX6_lowest (yX6_lowest.name = "<init>") M_X6_lowest := zk_MO_of clo_X6_lowest rfl tbo_X6
theorem TO_X6_lowest : zk_TO RX6 cX6_lowest rm_X6_lowest M_X6_lowest := ⟨fun pc h => absurd (zk_in_mem h) List.not_mem_nil, fun pc h => absurd (zk_in_mem h) List.not_mem_nil, fun pc tag h => absurd (zk_lka_mem h) List.not_mem_nil⟩
theorem THo_X6_lowest : ∀ pc X, M_X6_lowest.2.2.2.2.1 pc = some X → zk_TH RX6 cX6_lowest rm_X6_lowest pc X := fun pc X h => absurd (zk_lka_mem h) List.not_mem_nil
def cl_X6_highest : List (Nat × List (Nat × Instr)) := [(22, [(0, .iload_n 1), (1, .ifCond .eq 15), (4, .aload_n 0), (5, .getfield 16), (8, .aload_n 0), (9, .getfield 22), (12, .iadd), (13, .goto 12), (16, .aload_n 0), (17, .getfield 19), (20, .aload_n 0), (21, .getfield 25)]),
  (26, [(24, .iadd), (25, .ireturn)])]
theorem clo_X6_highest : zk_okc cX6_highest cl_X6_highest = true := by decide +kernel
def rm_X6_highest : Room := { frames := 0, cells := 0, slots := 0, locals := 0 }
def M_X6_highest : zk_M := (zk_lkc cl_X6_highest, zk_in [], tb_X6, (some (.int), 0, 0), (zk_lka [], fun _ _ => none, zk_in [], zk_in [], zk_lka []))
theorem MO_X6_highest : zk_MO RX6 cX6_highest (yX6_highest.name = "<init>") M_X6_highest := zk_MO_of clo_X6_highest rfl tbo_X6
theorem TO_X6_highest : zk_TO RX6 cX6_highest rm_X6_highest M_X6_highest := ⟨fun pc h => absurd (zk_in_mem h) List.not_mem_nil, fun pc h => absurd (zk_in_mem h) List.not_mem_nil, fun pc tag h => absurd (zk_lka_mem h) List.not_mem_nil⟩
theorem THo_X6_highest : ∀ pc X, M_X6_highest.2.2.2.2.1 pc = some X → zk_TH RX6 cX6_highest rm_X6_highest pc X := fun pc X h => absurd (zk_lka_mem h) List.not_mem_nil
def cl_X6_hasPoint : List (Nat × List (Nat × Instr)) := [(22, [(0, .iload_n 1), (1, .aload_n 0), (2, .getfield 16), (5, .if_icmp .lt 41), (8, .iload_n 1), (9, .aload_n 0), (10, .getfield 16), (13, .aload_n 0), (14, .getfield 22), (17, .iadd), (18, .if_icmp .gt 28), (21, .iload_n 2)]),
  (44, [(22, .aload_n 0), (23, .getfield 19), (26, .if_icmp .lt 20), (29, .iload_n 2), (30, .aload_n 0), (31, .getfield 19), (34, .aload_n 0), (35, .getfield 25), (38, .iadd), (39, .if_icmp .gt 7), (42, .iconst 1), (43, .goto 4)]),
  (48, [(46, .iconst 0), (47, .ireturn)])]
theorem clo_X6_hasPoint : zk_okc cX6_hasPoint cl_X6_hasPoint = true := by decide +kernel
def rm_X6_hasPoint : Room := { frames := 0, cells := 0, slots := 0, locals := 0 }
def M_X6_hasPoint : zk_M := (zk_lkc cl_X6_hasPoint, zk_in [], tb_X6, (some (.boolean), 0, 0), (zk_lka [], fun _ _ => none, zk_in [], zk_in [], zk_lka []))
theorem MO_X6_hasPoint : zk_MO RX6 cX6_hasPoint (yX6_hasPoint.name = "<init>") M_X6_hasPoint := zk_MO_of clo_X6_hasPoint rfl tbo_X6
theorem TO_X6_hasPoint : zk_TO RX6 cX6_hasPoint rm_X6_hasPoint M_X6_hasPoint := ⟨fun pc h => absurd (zk_in_mem h) List.not_mem_nil, fun pc h => absurd (zk_in_mem h) List.not_mem_nil, fun pc tag h => absurd (zk_lka_mem h) List.not_mem_nil⟩
theorem THo_X6_hasPoint : ∀ pc X, M_X6_hasPoint.2.2.2.2.1 pc = some X → zk_TH RX6 cX6_hasPoint rm_X6_hasPoint pc X := fun pc X h => absurd (zk_lka_mem h) List.not_mem_nil
def cl_X6_unitsInCommon : List (Nat × List (Nat × Instr)) := [(22, [(0, .aload_n 0), (1, .getfield 16), (4, .aload_n 0), (5, .getfield 22), (8, .iadd), (9, .aload_n 1), (10, .getfield 16), (13, .aload_n 1), (14, .getfield 22), (17, .iadd), (18, .invokestatic 31), (21, .aload_n 0)]),
  (44, [(22, .getfield 16), (25, .aload_n 1), (26, .getfield 16), (29, .invokestatic 37), (32, .isub), (33, .istore_n 2), (34, .aload_n 0), (35, .getfield 19), (38, .aload_n 0), (39, .getfield 25), (42, .iadd), (43, .aload_n 1)]),
  (68, [(44, .getfield 19), (47, .aload_n 1), (48, .getfield 25), (51, .iadd), (52, .invokestatic 31), (55, .aload_n 0), (56, .getfield 19), (59, .aload_n 1), (60, .getfield 19), (63, .invokestatic 37), (66, .isub), (67, .istore_n 3)]),
  (84, [(68, .iload_n 2), (69, .ifCond .le 13), (72, .iload_n 3), (73, .ifCond .le 9), (76, .iload_n 2), (77, .iload_n 3), (78, .imul), (79, .goto 4), (82, .iconst 0), (83, .ireturn)])]
theorem clo_X6_unitsInCommon : zk_okc cX6_unitsInCommon cl_X6_unitsInCommon = true := by decide +kernel
def rm_X6_unitsInCommon : Room := { frames := 1, cells := 0, slots := 0, locals := 23 }
def M_X6_unitsInCommon : zk_M := (zk_lkc cl_X6_unitsInCommon, zk_in [], tb_X6, (some (.int), 0, 0), (zk_lka [], fun _ _ => none, zk_in [], zk_in [], zk_lka [(18, 0), (29, 1), (52, 0), (63, 1)]))
theorem MO_X6_unitsInCommon : zk_MO RX6 cX6_unitsInCommon (yX6_unitsInCommon.name = "<init>") M_X6_unitsInCommon := zk_MO_of clo_X6_unitsInCommon rfl tbo_X6
theorem TO_X6_unitsInCommon : zk_TO RX6 cX6_unitsInCommon rm_X6_unitsInCommon M_X6_unitsInCommon := ⟨fun pc h => absurd (zk_in_mem h) List.not_mem_nil, fun pc h => absurd (zk_in_mem h) List.not_mem_nil, fun pc tag h => by
    have h2 := zk_lka_mem h
    simp only [List.mem_cons, List.not_mem_nil, or_false, Prod.mk.injEq] at h2
    rcases h2 with ⟨rfl, rfl⟩ | ⟨rfl, rfl⟩ | ⟨rfl, rfl⟩ | ⟨rfl, rfl⟩
    · exact ⟨31, by decide +kernel, zk_wi 223 (by decide +kernel) rfl, by decide, by decide⟩
    · exact ⟨37, by decide +kernel, zk_wi 224 (by decide +kernel) rfl, by decide, by decide⟩
    · exact ⟨31, by decide +kernel, zk_wi 223 (by decide +kernel) rfl, by decide, by decide⟩
    · exact ⟨37, by decide +kernel, zk_wi 224 (by decide +kernel) rfl, by decide, by decide⟩⟩
theorem THo_X6_unitsInCommon : ∀ pc X, M_X6_unitsInCommon.2.2.2.2.1 pc = some X → zk_TH RX6 cX6_unitsInCommon rm_X6_unitsInCommon pc X := fun pc X h => absurd (zk_lka_mem h) List.not_mem_nil
def cl_X7_init : List (Nat × List (Nat × Instr)) := [(14, [(0, .aload_n 0), (1, .aload_n 1), (2, .aload_n 2), (3, .iconst 2), (4, .iload_n 3), (5, .imul), (6, .iconst 2), (7, .iload 4), (9, .imul), (10, .bipush 20), (12, .iconst 3), (13, .invokespecial 3)]),
  (17, [(16, .return_)])]
theorem clo_X7_init : zk_okc cX7_init cl_X7_init = true := by decide +kernel
def rm_X7_init : Room := { frames := 2, cells := 0, slots := 0, locals := 46 }
def M_X7_init : zk_M := (zk_lkc cl_X7_init, zk_in [], tbi_X7, (none, 0, 0), (zk_lka [], fun _ _ => none, zk_in [], zk_in [], zk_lka []))
theorem MO_X7_init : zk_MO RX7 cX7_init (yX7_init.name = "<init>") M_X7_init := zk_MO_of clo_X7_init rfl (tbio_X7 rfl)
theorem TO_X7_init : zk_TO RX7 cX7_init rm_X7_init M_X7_init := ⟨fun pc h => absurd (zk_in_mem h) List.not_mem_nil, fun pc h => absurd (zk_in_mem h) List.not_mem_nil, fun pc tag h => absurd (zk_lka_mem h) List.not_mem_nil⟩
theorem THo_X7_init : ∀ pc X, M_X7_init.2.2.2.2.1 pc = some X → zk_TH RX7 cX7_init rm_X7_init pc X := fun pc X h => absurd (zk_lka_mem h) List.not_mem_nil
def cl_X8_init : List (Nat × List (Nat × Instr)) := [(22, [(0, .aload_n 0), (1, .invokespecial 3), (4, .aload_n 0), (5, .bipush 50), (7, .newarray .int), (9, .putfield 9), (12, .aload_n 0), (13, .bipush 50), (15, .newarray .int), (17, .putfield 15), (20, .aload_n 0), (21, .bipush 50)]),
  (46, [(23, .newarray .int), (25, .putfield 18), (28, .aload_n 0), (29, .bipush 20), (31, .newarray .int), (33, .putfield 21), (36, .aload_n 0), (37, .bipush 20), (39, .newarray .int), (41, .putfield 24), (44, .aload_n 0), (45, .bipush 20)]),
  (61, [(47, .newarray .int), (49, .putfield 27), (52, .aload_n 0), (53, .bipush 20), (55, .newarray .int), (57, .putfield 30), (60, .return_)])]
theorem clo_X8_init : zk_okc cX8_init cl_X8_init = true := by decide +kernel
def rm_X8_init : Room := { frames := 1, cells := 7, slots := 230, locals := 20 }
def M_X8_init : zk_M := (zk_lkc cl_X8_init, zk_in [], tbi_X8, (none, 7, 230), (zk_lka [], fun _ _ => none, zk_in [1], zk_in [], zk_lka []))
theorem MO_X8_init : zk_MO RX8 cX8_init (yX8_init.name = "<init>") M_X8_init := zk_MO_of clo_X8_init rfl (tbio_X8 rfl)
theorem TO_X8_init : zk_TO RX8 cX8_init rm_X8_init M_X8_init := ⟨fun pc h => by
    have h2 := zk_in_mem h
    simp only [List.mem_cons, List.not_mem_nil, or_false] at h2
    subst h2
    exact ⟨3, by decide +kernel, zk_wi 485 (by decide +kernel) rfl, by decide, by decide⟩, fun pc h => absurd (zk_in_mem h) List.not_mem_nil, fun pc tag h => absurd (zk_lka_mem h) List.not_mem_nil⟩
theorem THo_X8_init : ∀ pc X, M_X8_init.2.2.2.2.1 pc = some X → zk_TH RX8 cX8_init rm_X8_init pc X := fun pc X h => absurd (zk_lka_mem h) List.not_mem_nil
def cl_X8_reckonExits : List (Nat × List (Nat × Instr)) := [(17, [(0, .iconst 0), (1, .istore_n 2), (2, .iload_n 2), (3, .bipush 50), (5, .if_icmp .ge 23), (8, .aload_n 0), (9, .getfield 9), (12, .iload_n 2), (13, .iconst (-1)), (14, .iastore), (15, .aload_n 0), (16, .getfield 15)]),
  (37, [(19, .iload_n 2), (20, .iconst (-1)), (21, .iastore), (22, .iinc 2 1), (25, .goto (-23)), (28, .iconst 1), (29, .istore_n 2), (30, .iconst 0), (31, .istore_n 3), (32, .iload_n 2), (33, .ifCond .eq 68), (36, .iload_n 3)]),
  (58, [(37, .bipush 100), (39, .if_icmp .gt 62), (42, .iconst 0), (43, .istore_n 2), (44, .iconst 0), (45, .istore 4), (47, .iload 4), (49, .bipush 50), (51, .if_icmp .ge 44), (54, .aload_n 1), (55, .iload 4), (57, .invokevirtual 33)]),
  (85, [(60, .astore 5), (62, .aload 5), (64, .ifnull 25), (67, .aload 5), (69, .getfield 39), (72, .ifCond .ne 17), (75, .aload_n 0), (76, .aload_n 1), (77, .iload 4), (79, .aload 5), (81, .invokevirtual 45), (84, .ifCond .eq 5)]),
  (102, [(87, .iconst 1), (88, .istore_n 2), (89, .iinc 4 1), (92, .goto (-45)), (95, .iinc 3 1), (98, .goto (-66)), (101, .return_)])]
theorem clo_X8_reckonExits : zk_okc cX8_reckonExits cl_X8_reckonExits = true := by decide +kernel
def rm_X8_reckonExits : Room := { frames := 4, cells := 0, slots := 0, locals := 100 }
def M_X8_reckonExits : zk_M := (zk_lkc cl_X8_reckonExits, zk_in [2, 32, 47], tb_X8, (none, 0, 0), (zk_lka [], fun _ _ => none, zk_in [], zk_in [], zk_lka []))
theorem MO_X8_reckonExits : zk_MO RX8 cX8_reckonExits (yX8_reckonExits.name = "<init>") M_X8_reckonExits := zk_MO_of clo_X8_reckonExits rfl tbo_X8
theorem TO_X8_reckonExits : zk_TO RX8 cX8_reckonExits rm_X8_reckonExits M_X8_reckonExits := ⟨fun pc h => absurd (zk_in_mem h) List.not_mem_nil, fun pc h => absurd (zk_in_mem h) List.not_mem_nil, fun pc tag h => absurd (zk_lka_mem h) List.not_mem_nil⟩
theorem THo_X8_reckonExits : ∀ pc X, M_X8_reckonExits.2.2.2.2.1 pc = some X → zk_TH RX8 cX8_reckonExits rm_X8_reckonExits pc X := fun pc X h => absurd (zk_lka_mem h) List.not_mem_nil
def cl_X8_shorten : List (Nat × List (Nat × Instr)) := [(20, [(0, .aload_n 3), (1, .getfield 49), (4, .ifnonnull 7), (7, .iconst 0), (8, .goto 14), (11, .aload_n 0), (12, .aload_n 1), (13, .iload_n 2), (14, .aload_n 3), (15, .aload_n 3), (16, .getfield 49), (19, .invokevirtual 53)]),
  (41, [(22, .istore 4), (24, .aload_n 3), (25, .getfield 49), (28, .ifnonnull 7), (31, .iconst (-1)), (32, .goto 14), (35, .aload_n 0), (36, .aload_n 1), (37, .iload_n 2), (38, .aload_n 3), (39, .aload_n 3), (40, .getfield 57)]),
  (66, [(43, .invokevirtual 53), (46, .istore 5), (48, .iload 4), (50, .aload_n 0), (51, .getfield 9), (54, .iload_n 2), (55, .iaload), (56, .invokestatic 60), (59, .ifCond .ne 17), (62, .iload 5), (64, .aload_n 0), (65, .getfield 15)]),
  (89, [(68, .iload_n 2), (69, .iaload), (70, .invokestatic 60), (73, .ifCond .eq 7), (76, .iconst 1), (77, .goto 4), (80, .iconst 0), (81, .istore 6), (83, .aload_n 0), (84, .getfield 9), (87, .iload_n 2), (88, .iload 4)]),
  (102, [(90, .iastore), (91, .aload_n 0), (92, .getfield 15), (95, .iload_n 2), (96, .iload 5), (98, .iastore), (99, .iload 6), (101, .ireturn)])]
theorem clo_X8_shorten : zk_okc cX8_shorten cl_X8_shorten = true := by decide +kernel
def rm_X8_shorten : Room := { frames := 3, cells := 0, slots := 0, locals := 74 }
def M_X8_shorten : zk_M := (zk_lkc cl_X8_shorten, zk_in [], tb_X8, (some (.boolean), 0, 0), (zk_lka [], fun _ _ => none, zk_in [], zk_in [], zk_lka []))
theorem MO_X8_shorten : zk_MO RX8 cX8_shorten (yX8_shorten.name = "<init>") M_X8_shorten := zk_MO_of clo_X8_shorten rfl tbo_X8
theorem TO_X8_shorten : zk_TO RX8 cX8_shorten rm_X8_shorten M_X8_shorten := ⟨fun pc h => absurd (zk_in_mem h) List.not_mem_nil, fun pc h => absurd (zk_in_mem h) List.not_mem_nil, fun pc tag h => absurd (zk_lka_mem h) List.not_mem_nil⟩
theorem THo_X8_shorten : ∀ pc X, M_X8_shorten.2.2.2.2.1 pc = some X → zk_TH RX8 cX8_shorten rm_X8_shorten pc X := fun pc X h => absurd (zk_lka_mem h) List.not_mem_nil
def cl_X8_wayOn : List (Nat × List (Nat × Instr)) := [(22, [(0, .iconst (-1)), (1, .istore 5), (3, .iconst 0), (4, .istore 6), (6, .iload 6), (8, .bipush 50), (10, .if_icmp .ge 91), (13, .aload_n 1), (14, .iload 6), (16, .invokevirtual 33), (19, .astore 7), (21, .aload 7)]),
  (48, [(23, .ifnull 72), (26, .iload 6), (28, .iload_n 2), (29, .if_icmp .ne 6), (32, .goto 63), (35, .aload_n 0), (36, .iload 6), (38, .aload 7), (40, .aload 4), (42, .invokevirtual 64), (45, .istore 8), (47, .iload 8)]),
  (72, [(49, .iconst (-1)), (50, .if_icmp .eq 45), (53, .aload_n 3), (54, .getfield 68), (57, .aload 7), (59, .aload_n 3), (60, .getfield 72), (63, .aload_n 3), (64, .getfield 75), (67, .invokevirtual 78), (70, .iadd), (71, .iload 8)]),
  (99, [(73, .iadd), (74, .istore 9), (76, .iload 9), (78, .iload 5), (80, .invokestatic 60), (83, .ifCond .eq 8), (86, .iload 9), (88, .goto 5), (91, .iload 5), (93, .istore 5), (95, .iinc 6 1), (98, .goto (-92))]),
  (104, [(101, .iload 5), (103, .ireturn)])]
theorem clo_X8_wayOn : zk_okc cX8_wayOn cl_X8_wayOn = true := by decide +kernel
def rm_X8_wayOn : Room := { frames := 2, cells := 0, slots := 0, locals := 45 }
def M_X8_wayOn : zk_M := (zk_lkc cl_X8_wayOn, zk_in [6], tb_X8, (some (.int), 0, 0), (zk_lka [], fun _ _ => none, zk_in [], zk_in [], zk_lka []))
theorem MO_X8_wayOn : zk_MO RX8 cX8_wayOn (yX8_wayOn.name = "<init>") M_X8_wayOn := zk_MO_of clo_X8_wayOn rfl tbo_X8
theorem TO_X8_wayOn : zk_TO RX8 cX8_wayOn rm_X8_wayOn M_X8_wayOn := ⟨fun pc h => absurd (zk_in_mem h) List.not_mem_nil, fun pc h => absurd (zk_in_mem h) List.not_mem_nil, fun pc tag h => absurd (zk_lka_mem h) List.not_mem_nil⟩
theorem THo_X8_wayOn : ∀ pc X, M_X8_wayOn.2.2.2.2.1 pc = some X → zk_TH RX8 cX8_wayOn rm_X8_wayOn pc X := fun pc X h => absurd (zk_lka_mem h) List.not_mem_nil
def cl_X8_wayFrom : List (Nat × List (Nat × Instr)) := [(20, [(0, .aload_n 2), (1, .getfield 57), (4, .aload_n 3), (5, .if_acmp .ne 10), (8, .aload_n 0), (9, .getfield 9), (12, .iload_n 1), (13, .iaload), (14, .ireturn), (15, .aload_n 2), (16, .getfield 49), (19, .aload_n 3)]),
  (34, [(20, .if_acmp .ne 12), (23, .aload_n 0), (24, .getfield 15), (27, .iload_n 1), (28, .iaload), (29, .goto 4), (32, .iconst (-1)), (33, .ireturn)])]
theorem clo_X8_wayFrom : zk_okc cX8_wayFrom cl_X8_wayFrom = true := by decide +kernel
def rm_X8_wayFrom : Room := { frames := 0, cells := 0, slots := 0, locals := 0 }
def M_X8_wayFrom : zk_M := (zk_lkc cl_X8_wayFrom, zk_in [], tb_X8, (some (.int), 0, 0), (zk_lka [], fun _ _ => none, zk_in [], zk_in [], zk_lka []))
theorem MO_X8_wayFrom : zk_MO RX8 cX8_wayFrom (yX8_wayFrom.name = "<init>") M_X8_wayFrom := zk_MO_of clo_X8_wayFrom rfl tbo_X8
theorem TO_X8_wayFrom : zk_TO RX8 cX8_wayFrom rm_X8_wayFrom M_X8_wayFrom := ⟨fun pc h => absurd (zk_in_mem h) List.not_mem_nil, fun pc h => absurd (zk_in_mem h) List.not_mem_nil, fun pc tag h => absurd (zk_lka_mem h) List.not_mem_nil⟩
theorem THo_X8_wayFrom : ∀ pc X, M_X8_wayFrom.2.2.2.2.1 pc = some X → zk_TH RX8 cX8_wayFrom rm_X8_wayFrom pc X := fun pc X h => absurd (zk_lka_mem h) List.not_mem_nil
def cl_X8_isLess : List (Nat × List (Nat × Instr)) := [(20, [(0, .iload_n 0), (1, .iconst (-1)), (2, .if_icmp .eq 17), (5, .iload_n 1), (6, .iconst (-1)), (7, .if_icmp .eq 8), (10, .iload_n 0), (11, .iload_n 1), (12, .if_icmp .ge 7), (15, .iconst 1), (16, .goto 4), (19, .iconst 0)]),
  (21, [(20, .ireturn)])]
theorem clo_X8_isLess : zk_okc cX8_isLess cl_X8_isLess = true := by decide +kernel
def rm_X8_isLess : Room := { frames := 0, cells := 0, slots := 0, locals := 0 }
def M_X8_isLess : zk_M := (zk_lkc cl_X8_isLess, zk_in [], tb_X8, (some (.boolean), 0, 0), (zk_lka [], fun _ _ => none, zk_in [], zk_in [], zk_lka []))
theorem MO_X8_isLess : zk_MO RX8 cX8_isLess (yX8_isLess.name = "<init>") M_X8_isLess := zk_MO_of clo_X8_isLess rfl tbo_X8
theorem TO_X8_isLess : zk_TO RX8 cX8_isLess rm_X8_isLess M_X8_isLess := ⟨fun pc h => absurd (zk_in_mem h) List.not_mem_nil, fun pc h => absurd (zk_in_mem h) List.not_mem_nil, fun pc tag h => absurd (zk_lka_mem h) List.not_mem_nil⟩
theorem THo_X8_isLess : ∀ pc X, M_X8_isLess.2.2.2.2.1 pc = some X → zk_TH RX8 cX8_isLess rm_X8_isLess pc X := fun pc X h => absurd (zk_lka_mem h) List.not_mem_nil
def cl_X8_reckonRoom : List (Nat × List (Nat × Instr)) := [(16, [(0, .aload_n 1), (1, .getfield 82), (4, .iload_n 2), (5, .aaload), (6, .astore_n 3), (7, .aload_n 0), (8, .getfield 21), (11, .iload_n 2), (12, .iconst (-1)), (13, .iastore), (14, .aload_n 0), (15, .getfield 24)]),
  (34, [(18, .iload_n 2), (19, .iconst (-1)), (20, .iastore), (21, .aload_n 0), (22, .getfield 27), (25, .iload_n 2), (26, .iconst (-1)), (27, .iastore), (28, .aload_n 3), (29, .ifnonnull 4), (32, .return_), (33, .iconst 2)]),
  (53, [(34, .aload_n 3), (35, .getfield 86), (38, .imul), (39, .aload_n 3), (40, .getfield 91), (43, .iadd), (44, .istore 4), (46, .iconst 2), (47, .aload_n 3), (48, .getfield 94), (51, .imul), (52, .aload_n 3)]),
  (72, [(53, .getfield 97), (56, .iadd), (57, .istore 5), (59, .aload_n 0), (60, .getfield 21), (63, .iload_n 2), (64, .aload_n 0), (65, .aload_n 1), (66, .aload_n 3), (67, .iload 4), (69, .iload 5), (71, .invokevirtual 100)]),
  (90, [(74, .iastore), (75, .aload_n 0), (76, .getfield 24), (79, .iload_n 2), (80, .aload_n 0), (81, .aload_n 1), (82, .aload_n 3), (83, .aload_n 0), (84, .getfield 21), (87, .iload_n 2), (88, .iaload), (89, .iload 4)]),
  (111, [(91, .iload 5), (93, .invokevirtual 104), (96, .iastore), (97, .iconst 0), (98, .istore 6), (100, .iload 6), (102, .iconst 4), (103, .if_icmp .ge 102), (106, .iconst 2), (107, .iload 6), (109, .iconst 2), (110, .irem)]),
  (134, [(111, .ifCond .ne 10), (114, .aload_n 3), (115, .getfield 86), (118, .goto 12), (121, .aload_n 3), (122, .getfield 86), (125, .aload_n 3), (126, .getfield 91), (129, .iadd), (130, .imul), (131, .istore 7), (133, .iconst 2)]),
  (157, [(134, .iload 6), (136, .iconst 2), (137, .idiv), (138, .ifCond .ne 10), (141, .aload_n 3), (142, .getfield 94), (145, .goto 12), (148, .aload_n 3), (149, .getfield 94), (152, .aload_n 3), (153, .getfield 97), (156, .iadd)]),
  (174, [(157, .imul), (158, .istore 8), (160, .aload_n 0), (161, .aload_n 1), (162, .aload_n 3), (163, .aload_n 0), (164, .aload_n 1), (165, .aload_n 3), (166, .iload 7), (168, .iload 8), (170, .invokevirtual 100), (173, .iload 7)]),
  (196, [(175, .iload 8), (177, .invokevirtual 104), (180, .istore 9), (182, .aload_n 0), (183, .getfield 27), (186, .iload_n 2), (187, .aload_n 0), (188, .getfield 27), (191, .iload_n 2), (192, .iaload), (193, .iload 9), (195, .invokestatic 108)]),
  (206, [(198, .iastore), (199, .iinc 6 1), (202, .goto (-102)), (205, .return_)])]
theorem clo_X8_reckonRoom : zk_okc cX8_reckonRoom cl_X8_reckonRoom = true := by decide +kernel
def rm_X8_reckonRoom : Room := { frames := 4, cells := 0, slots := 0, locals := 100 }
def M_X8_reckonRoom : zk_M := (zk_lkc cl_X8_reckonRoom, zk_in [100], tb_X8, (none, 0, 0), (zk_lka [], fun _ _ => none, zk_in [], zk_in [], zk_lka [(195, 1)]))
theorem MO_X8_reckonRoom : zk_MO RX8 cX8_reckonRoom (yX8_reckonRoom.name = "<init>") M_X8_reckonRoom := zk_MO_of clo_X8_reckonRoom rfl tbo_X8
theorem TO_X8_reckonRoom : zk_TO RX8 cX8_reckonRoom rm_X8_reckonRoom M_X8_reckonRoom := ⟨fun pc h => absurd (zk_in_mem h) List.not_mem_nil, fun pc h => absurd (zk_in_mem h) List.not_mem_nil, fun pc tag h => by
    have h2 := zk_lka_mem h
    simp only [List.mem_cons, List.not_mem_nil, or_false, Prod.mk.injEq] at h2
    rcases h2 with ⟨rfl, rfl⟩
    exact ⟨108, by decide +kernel, zk_wi 158 (by decide +kernel) rfl, by decide, by decide⟩⟩
theorem THo_X8_reckonRoom : ∀ pc X, M_X8_reckonRoom.2.2.2.2.1 pc = some X → zk_TH RX8 cX8_reckonRoom rm_X8_reckonRoom pc X := fun pc X h => absurd (zk_lka_mem h) List.not_mem_nil
def cl_X8_bestExit : List (Nat × List (Nat × Instr)) := [(19, [(0, .iconst (-1)), (1, .istore 5), (3, .iconst (-1)), (4, .istore 6), (6, .iconst 0), (7, .istore 7), (9, .iload 7), (11, .bipush 50), (13, .if_icmp .ge 40), (16, .aload_n 0), (17, .aload_n 1), (18, .aload_n 2)]),
  (44, [(19, .iload 7), (21, .iload_n 3), (22, .iload 4), (24, .invokevirtual 104), (27, .istore 8), (29, .iload 8), (31, .iload 6), (33, .invokestatic 60), (36, .ifCond .eq 11), (39, .iload 7), (41, .istore 5), (43, .iload 8)]),
  (56, [(45, .istore 6), (47, .iinc 7 1), (50, .goto (-41)), (53, .iload 5), (55, .ireturn)])]
theorem clo_X8_bestExit : zk_okc cX8_bestExit cl_X8_bestExit = true := by decide +kernel
def rm_X8_bestExit : Room := { frames := 3, cells := 0, slots := 0, locals := 72 }
def M_X8_bestExit : zk_M := (zk_lkc cl_X8_bestExit, zk_in [9], tb_X8, (some (.int), 0, 0), (zk_lka [], fun _ _ => none, zk_in [], zk_in [], zk_lka []))
theorem MO_X8_bestExit : zk_MO RX8 cX8_bestExit (yX8_bestExit.name = "<init>") M_X8_bestExit := zk_MO_of clo_X8_bestExit rfl tbo_X8
theorem TO_X8_bestExit : zk_TO RX8 cX8_bestExit rm_X8_bestExit M_X8_bestExit := ⟨fun pc h => absurd (zk_in_mem h) List.not_mem_nil, fun pc h => absurd (zk_in_mem h) List.not_mem_nil, fun pc tag h => absurd (zk_lka_mem h) List.not_mem_nil⟩
theorem THo_X8_bestExit : ∀ pc X, M_X8_bestExit.2.2.2.2.1 pc = some X → zk_TH RX8 cX8_bestExit rm_X8_bestExit pc X := fun pc X h => absurd (zk_lka_mem h) List.not_mem_nil
def cl_X8_wayBy : List (Nat × List (Nat × Instr)) := [(21, [(0, .aload_n 1), (1, .iload_n 3), (2, .invokevirtual 33), (5, .astore 6), (7, .aload 6), (9, .ifnonnull 7), (12, .iconst (-1)), (13, .goto 11), (16, .aload_n 0), (17, .iload_n 3), (18, .aload 6), (20, .aload_n 2)]),
  (46, [(21, .invokevirtual 64), (24, .istore 7), (26, .iload 7), (28, .iconst (-1)), (29, .if_icmp .ne 7), (32, .iconst (-1)), (33, .goto 15), (36, .aload 6), (38, .iload 4), (40, .iload 5), (42, .invokevirtual 78), (45, .iload 7)]),
  (49, [(47, .iadd), (48, .ireturn)])]
theorem clo_X8_wayBy : zk_okc cX8_wayBy cl_X8_wayBy = true := by decide +kernel
def rm_X8_wayBy : Room := { frames := 2, cells := 0, slots := 0, locals := 45 }
def M_X8_wayBy : zk_M := (zk_lkc cl_X8_wayBy, zk_in [], tb_X8, (some (.int), 0, 0), (zk_lka [], fun _ _ => none, zk_in [], zk_in [], zk_lka []))
theorem MO_X8_wayBy : zk_MO RX8 cX8_wayBy (yX8_wayBy.name = "<init>") M_X8_wayBy := zk_MO_of clo_X8_wayBy rfl tbo_X8
theorem TO_X8_wayBy : zk_TO RX8 cX8_wayBy rm_X8_wayBy M_X8_wayBy := ⟨fun pc h => absurd (zk_in_mem h) List.not_mem_nil, fun pc h => absurd (zk_in_mem h) List.not_mem_nil, fun pc tag h => absurd (zk_lka_mem h) List.not_mem_nil⟩
theorem THo_X8_wayBy : ∀ pc X, M_X8_wayBy.2.2.2.2.1 pc = some X → zk_TH RX8 cX8_wayBy rm_X8_wayBy pc X := fun pc X h => absurd (zk_lka_mem h) List.not_mem_nil
def cl_X8_reckonDepths : List (Nat × List (Nat × Instr)) := [(17, [(0, .iconst 0), (1, .istore_n 2), (2, .iload_n 2), (3, .bipush 20), (5, .if_icmp .ge 26), (8, .aload_n 0), (9, .getfield 30), (12, .iload_n 2), (13, .aload_n 0), (14, .aload_n 1), (15, .aload_n 1), (16, .getfield 82)]),
  (32, [(19, .iload_n 2), (20, .aaload), (21, .invokevirtual 113), (24, .iastore), (25, .iinc 2 1), (28, .goto (-26)), (31, .return_)])]
theorem clo_X8_reckonDepths : zk_okc cX8_reckonDepths cl_X8_reckonDepths = true := by decide +kernel
def rm_X8_reckonDepths : Room := { frames := 2, cells := 0, slots := 0, locals := 46 }
def M_X8_reckonDepths : zk_M := (zk_lkc cl_X8_reckonDepths, zk_in [2], tb_X8, (none, 0, 0), (zk_lka [], fun _ _ => none, zk_in [], zk_in [], zk_lka []))
theorem MO_X8_reckonDepths : zk_MO RX8 cX8_reckonDepths (yX8_reckonDepths.name = "<init>") M_X8_reckonDepths := zk_MO_of clo_X8_reckonDepths rfl tbo_X8
theorem TO_X8_reckonDepths : zk_TO RX8 cX8_reckonDepths rm_X8_reckonDepths M_X8_reckonDepths := ⟨fun pc h => absurd (zk_in_mem h) List.not_mem_nil, fun pc h => absurd (zk_in_mem h) List.not_mem_nil, fun pc tag h => absurd (zk_lka_mem h) List.not_mem_nil⟩
theorem THo_X8_reckonDepths : ∀ pc X, M_X8_reckonDepths.2.2.2.2.1 pc = some X → zk_TH RX8 cX8_reckonDepths rm_X8_reckonDepths pc X := fun pc X h => absurd (zk_lka_mem h) List.not_mem_nil
def cl_X8_depthOf : List (Nat × List (Nat × Instr)) := [(22, [(0, .aload_n 2), (1, .astore_n 3), (2, .iconst 0), (3, .istore 4), (5, .iload 4), (7, .bipush 20), (9, .if_icmp .gt 54), (12, .aload_n 3), (13, .ifnonnull 15), (16, .iload 4), (18, .ifCond .ne 7), (21, .iconst (-1))]),
  (44, [(22, .goto 5), (25, .iload 4), (27, .ireturn), (28, .aload_n 1), (29, .aload_n 0), (30, .getfield 21), (33, .aload_n 3), (34, .getfield 117), (37, .iaload), (38, .invokevirtual 33), (41, .astore 5), (43, .aload 5)]),
  (65, [(45, .ifnonnull 5), (48, .iconst (-1)), (49, .ireturn), (50, .aload 5), (52, .aload_n 3), (53, .invokevirtual 120), (56, .astore_n 3), (57, .iinc 4 1), (60, .goto (-55)), (63, .iconst (-1)), (64, .ireturn)])]
theorem clo_X8_depthOf : zk_okc cX8_depthOf cl_X8_depthOf = true := by decide +kernel
def rm_X8_depthOf : Room := { frames := 1, cells := 0, slots := 0, locals := 21 }
def M_X8_depthOf : zk_M := (zk_lkc cl_X8_depthOf, zk_in [5], tb_X8, (some (.int), 0, 0), (zk_lka [], fun _ _ => none, zk_in [], zk_in [], zk_lka []))
theorem MO_X8_depthOf : zk_MO RX8 cX8_depthOf (yX8_depthOf.name = "<init>") M_X8_depthOf := zk_MO_of clo_X8_depthOf rfl tbo_X8
theorem TO_X8_depthOf : zk_TO RX8 cX8_depthOf rm_X8_depthOf M_X8_depthOf := ⟨fun pc h => absurd (zk_in_mem h) List.not_mem_nil, fun pc h => absurd (zk_in_mem h) List.not_mem_nil, fun pc tag h => absurd (zk_lka_mem h) List.not_mem_nil⟩
theorem THo_X8_depthOf : ∀ pc X, M_X8_depthOf.2.2.2.2.1 pc = some X → zk_TH RX8 cX8_depthOf rm_X8_depthOf pc X := fun pc X h => absurd (zk_lka_mem h) List.not_mem_nil
def cl_X8_reckonLoads : List (Nat × List (Nat × Instr)) := [(19, [(0, .iconst 0), (1, .istore_n 2), (2, .iload_n 2), (3, .bipush 50), (5, .if_icmp .ge 16), (8, .aload_n 0), (9, .getfield 18), (12, .iload_n 2), (13, .iconst 0), (14, .iastore), (15, .iinc 2 1), (18, .goto (-16))]),
  (39, [(21, .aload_n 1), (22, .getfield 82), (25, .astore_n 2), (26, .aload_n 2), (27, .arraylength), (28, .istore_n 3), (29, .iconst 0), (30, .istore 4), (32, .iload 4), (34, .iload_n 3), (35, .if_icmp .ge 27), (38, .aload_n 2)]),
  (63, [(39, .iload 4), (41, .aaload), (42, .astore 5), (44, .aload 5), (46, .ifnull 10), (49, .aload_n 0), (50, .aload_n 1), (51, .aload 5), (53, .invokevirtual 124), (56, .iinc 4 1), (59, .goto (-27)), (62, .return_)])]
theorem clo_X8_reckonLoads : zk_okc cX8_reckonLoads cl_X8_reckonLoads = true := by decide +kernel
def rm_X8_reckonLoads : Room := { frames := 2, cells := 0, slots := 0, locals := 47 }
def M_X8_reckonLoads : zk_M := (zk_lkc cl_X8_reckonLoads, zk_in [2, 32], tb_X8, (none, 0, 0), (zk_lka [], fun _ _ => none, zk_in [], zk_in [], zk_lka []))
theorem MO_X8_reckonLoads : zk_MO RX8 cX8_reckonLoads (yX8_reckonLoads.name = "<init>") M_X8_reckonLoads := zk_MO_of clo_X8_reckonLoads rfl tbo_X8
theorem TO_X8_reckonLoads : zk_TO RX8 cX8_reckonLoads rm_X8_reckonLoads M_X8_reckonLoads := ⟨fun pc h => absurd (zk_in_mem h) List.not_mem_nil, fun pc h => absurd (zk_in_mem h) List.not_mem_nil, fun pc tag h => absurd (zk_lka_mem h) List.not_mem_nil⟩
theorem THo_X8_reckonLoads : ∀ pc X, M_X8_reckonLoads.2.2.2.2.1 pc = some X → zk_TH RX8 cX8_reckonLoads rm_X8_reckonLoads pc X := fun pc X h => absurd (zk_lka_mem h) List.not_mem_nil
def cl_X8_addLoadOf : List (Nat × List (Nat × Instr)) := [(20, [(0, .aload_n 2), (1, .astore_n 3), (2, .iconst 0), (3, .istore 4), (5, .aload_n 3), (6, .ifnull 69), (9, .iload 4), (11, .aload_n 0), (12, .getfield 30), (15, .aload_n 2), (16, .getfield 117), (19, .iaload)]),
  (43, [(20, .if_icmp .ge 55), (23, .aload_n 0), (24, .getfield 21), (27, .aload_n 3), (28, .getfield 117), (31, .iaload), (32, .istore 5), (34, .aload_n 1), (35, .iload 5), (37, .invokevirtual 33), (40, .astore 6), (42, .aload 6)]),
  (63, [(44, .ifnonnull 4), (47, .return_), (48, .aload_n 0), (49, .getfield 18), (52, .iload 5), (54, .dup2), (55, .iaload), (56, .aload_n 2), (57, .getfield 128), (60, .iadd), (61, .iastore), (62, .aload 6)]),
  (76, [(64, .aload_n 3), (65, .invokevirtual 120), (68, .astore_n 3), (69, .iinc 4 1), (72, .goto (-67)), (75, .return_)])]
theorem clo_X8_addLoadOf : zk_okc cX8_addLoadOf cl_X8_addLoadOf = true := by decide +kernel
def rm_X8_addLoadOf : Room := { frames := 1, cells := 0, slots := 0, locals := 21 }
def M_X8_addLoadOf : zk_M := (zk_lkc cl_X8_addLoadOf, zk_in [5], tb_X8, (none, 0, 0), (zk_lka [], fun _ _ => none, zk_in [], zk_in [], zk_lka []))
theorem MO_X8_addLoadOf : zk_MO RX8 cX8_addLoadOf (yX8_addLoadOf.name = "<init>") M_X8_addLoadOf := zk_MO_of clo_X8_addLoadOf rfl tbo_X8
theorem TO_X8_addLoadOf : zk_TO RX8 cX8_addLoadOf rm_X8_addLoadOf M_X8_addLoadOf := ⟨fun pc h => absurd (zk_in_mem h) List.not_mem_nil, fun pc h => absurd (zk_in_mem h) List.not_mem_nil, fun pc tag h => absurd (zk_lka_mem h) List.not_mem_nil⟩
theorem THo_X8_addLoadOf : ∀ pc X, M_X8_addLoadOf.2.2.2.2.1 pc = some X → zk_TH RX8 cX8_addLoadOf rm_X8_addLoadOf pc X := fun pc X h => absurd (zk_lka_mem h) List.not_mem_nil
def cl_X8_countStuck : List (Nat × List (Nat × Instr)) := [(17, [(0, .iconst 0), (1, .istore_n 2), (2, .aload_n 1), (3, .getfield 82), (6, .astore_n 3), (7, .aload_n 3), (8, .arraylength), (9, .istore 4), (11, .iconst 0), (12, .istore 5), (14, .iload 5), (16, .iload 4)]),
  (42, [(18, .if_icmp .ge 42), (21, .aload_n 3), (22, .iload 5), (24, .aaload), (25, .astore 6), (27, .aload 6), (29, .ifnull 25), (32, .aload_n 0), (33, .getfield 30), (36, .aload 6), (38, .getfield 117), (41, .iaload)]),
  (62, [(42, .iconst (-1)), (43, .if_icmp .ne 11), (46, .iload_n 2), (47, .aload 6), (49, .getfield 128), (52, .iadd), (53, .istore_n 2), (54, .iinc 5 1), (57, .goto (-43)), (60, .iload_n 2), (61, .ireturn)])]
theorem clo_X8_countStuck : zk_okc cX8_countStuck cl_X8_countStuck = true := by decide +kernel
def rm_X8_countStuck : Room := { frames := 0, cells := 0, slots := 0, locals := 0 }
def M_X8_countStuck : zk_M := (zk_lkc cl_X8_countStuck, zk_in [14], tb_X8, (some (.int), 0, 0), (zk_lka [], fun _ _ => none, zk_in [], zk_in [], zk_lka []))
theorem MO_X8_countStuck : zk_MO RX8 cX8_countStuck (yX8_countStuck.name = "<init>") M_X8_countStuck := zk_MO_of clo_X8_countStuck rfl tbo_X8
theorem TO_X8_countStuck : zk_TO RX8 cX8_countStuck rm_X8_countStuck M_X8_countStuck := ⟨fun pc h => absurd (zk_in_mem h) List.not_mem_nil, fun pc h => absurd (zk_in_mem h) List.not_mem_nil, fun pc tag h => absurd (zk_lka_mem h) List.not_mem_nil⟩
theorem THo_X8_countStuck : ∀ pc X, M_X8_countStuck.2.2.2.2.1 pc = some X → zk_TH RX8 cX8_countStuck rm_X8_countStuck pc X := fun pc X h => absurd (zk_lka_mem h) List.not_mem_nil
def cl_X10_init : List (Nat × List (Nat × Instr)) := [(24, [(0, .aload_n 0), (1, .invokespecial 3), (4, .aload_n 0), (5, .new 9), (8, .dup), (9, .invokespecial 11), (12, .putfield 12), (15, .aload_n 0), (16, .new 16), (19, .dup), (20, .invokespecial 18), (23, .putfield 19)]),
  (50, [(26, .aload_n 0), (27, .new 23), (30, .dup), (31, .invokespecial 25), (34, .putfield 26), (37, .aload_n 0), (38, .new 30), (41, .dup), (42, .invokespecial 32), (45, .putfield 33), (48, .aload_n 0), (49, .iconst 0)]),
  (54, [(50, .putfield 37), (53, .return_)])]
theorem clo_X10_init : zk_okc cX10_init cl_X10_init = true := by decide +kernel
def rm_X10_init : Room := { frames := 2, cells := 21, slots := 1042, locals := 42 }
def M_X10_init : zk_M := (zk_lkc cl_X10_init, zk_in [], tbi_X10, (none, 21, 1042), (zk_lka [], fun _ _ => none, zk_in [1], zk_in [], zk_lka []))
theorem MO_X10_init : zk_MO RX10 cX10_init (yX10_init.name = "<init>") M_X10_init := zk_MO_of clo_X10_init rfl (tbio_X10 rfl)
theorem TO_X10_init : zk_TO RX10 cX10_init rm_X10_init M_X10_init := ⟨fun pc h => by
    have h2 := zk_in_mem h
    simp only [List.mem_cons, List.not_mem_nil, or_false] at h2
    subst h2
    exact ⟨3, by decide +kernel, zk_wi 419 (by decide +kernel) rfl, by decide, by decide⟩, fun pc h => absurd (zk_in_mem h) List.not_mem_nil, fun pc tag h => absurd (zk_lka_mem h) List.not_mem_nil⟩
theorem THo_X10_init : ∀ pc X, M_X10_init.2.2.2.2.1 pc = some X → zk_TH RX10 cX10_init rm_X10_init pc X := fun pc X h => absurd (zk_lka_mem h) List.not_mem_nil
def cl_X10_addRoom : List (Nat × List (Nat × Instr)) := [(21, [(0, .iload_n 1), (1, .iconst 0), (2, .iconst 2), (3, .invokestatic 41), (6, .ifCond .eq 55), (9, .iload 6), (11, .iconst 0), (12, .iconst 3), (13, .invokestatic 41), (16, .ifCond .eq 45), (19, .iload_n 2), (20, .iconst 0)]),
  (45, [(21, .bipush 60), (23, .invokestatic 41), (26, .ifCond .eq 35), (29, .iload_n 3), (30, .iconst 0), (31, .bipush 60), (33, .invokestatic 41), (36, .ifCond .eq 25), (39, .iload 4), (41, .iconst 1), (42, .bipush 30), (44, .invokestatic 41)]),
  (72, [(47, .ifCond .eq 14), (50, .iload 5), (52, .iconst 1), (53, .bipush 30), (55, .invokestatic 41), (58, .ifCond .ne 13), (61, .new 45), (64, .dup), (65, .ldc 47), (67, .invokespecial 49), (70, .athrow), (71, .aload_n 0)]),
  (98, [(72, .getfield 12), (75, .getfield 52), (78, .istore 7), (80, .iload 7), (82, .bipush 20), (84, .if_icmp .lt 13), (87, .new 56), (90, .dup), (91, .ldc 58), (93, .invokespecial 60), (96, .athrow), (97, .new 61)]),
  (119, [(100, .dup), (101, .iload 7), (103, .iload_n 1), (104, .iload_n 2), (105, .iload_n 3), (106, .iload 4), (108, .iload 5), (110, .iload 6), (112, .invokespecial 63), (115, .astore 8), (117, .aload_n 0), (118, .getfield 12)]),
  (147, [(121, .aload 8), (123, .invokevirtual 66), (126, .ifCond .eq 13), (129, .new 56), (132, .dup), (133, .ldc 70), (135, .invokespecial 60), (138, .athrow), (139, .aload_n 0), (140, .getfield 12), (143, .getfield 72), (146, .iload 7)]),
  (168, [(148, .aload 8), (150, .aastore), (151, .aload_n 0), (152, .getfield 12), (155, .iload 7), (157, .iconst 1), (158, .iadd), (159, .putfield 52), (162, .aload_n 0), (163, .iconst 0), (164, .putfield 37), (167, .iload 7)]),
  (170, [(169, .ireturn)])]
theorem clo_X10_addRoom : zk_okc cX10_addRoom cl_X10_addRoom = true := by decide +kernel
def rm_X10_addRoom : Room := { frames := 6, cells := 4, slots := 26, locals := 82 }
def M_X10_addRoom : zk_M := (zk_lkc cl_X10_addRoom, zk_in [], tb_X10, (some (.int), 4, 26), (zk_lka [(61, "java/lang/IllegalArgumentException"), (87, "java/lang/IllegalStateException"), (129, "java/lang/IllegalStateException")], fun _ _ => none, zk_in [], zk_in [], zk_lka []))
theorem MO_X10_addRoom : zk_MO RX10 cX10_addRoom (yX10_addRoom.name = "<init>") M_X10_addRoom := zk_MO_of clo_X10_addRoom rfl tbo_X10
theorem TO_X10_addRoom : zk_TO RX10 cX10_addRoom rm_X10_addRoom M_X10_addRoom := ⟨fun pc h => absurd (zk_in_mem h) List.not_mem_nil, fun pc h => absurd (zk_in_mem h) List.not_mem_nil, fun pc tag h => absurd (zk_lka_mem h) List.not_mem_nil⟩
theorem TH_X10_addRoom_61 : zk_TH RX10 cX10_addRoom rm_X10_addRoom 61 "java/lang/IllegalArgumentException" := ⟨45, 47, 49, "no such floor, place, size or use", ["java/lang/RuntimeException", "java/lang/Exception"], zk_wi 287 (by decide +kernel) rfl, zk_wi 10 (by decide +kernel) rfl, by decide +kernel, ats_0, by decide +kernel, by decide +kernel, by decide, by decide, by decide +kernel, by decide +kernel, Or.inl ⟨by decide +kernel, by decide +kernel, by decide +kernel⟩⟩
theorem TH_X10_addRoom_87 : zk_TH RX10 cX10_addRoom rm_X10_addRoom 87 "java/lang/IllegalStateException" := ⟨56, 58, 60, "all rooms were laid", ["java/lang/RuntimeException", "java/lang/Exception"], zk_wi 651 (by decide +kernel) rfl, zk_wi 11 (by decide +kernel) rfl, by decide +kernel, ats_1, by decide +kernel, by decide +kernel, by decide, by decide, by decide +kernel, by decide +kernel, Or.inl ⟨by decide +kernel, by decide +kernel, by decide +kernel⟩⟩
theorem TH_X10_addRoom_129 : zk_TH RX10 cX10_addRoom rm_X10_addRoom 129 "java/lang/IllegalStateException" := ⟨56, 70, 60, "another room is there", ["java/lang/RuntimeException", "java/lang/Exception"], zk_wi 651 (by decide +kernel) rfl, zk_wi 11 (by decide +kernel) rfl, by decide +kernel, ats_1, by decide +kernel, by decide +kernel, by decide, by decide, by decide +kernel, by decide +kernel, Or.inl ⟨by decide +kernel, by decide +kernel, by decide +kernel⟩⟩
theorem THo_X10_addRoom : ∀ pc X, M_X10_addRoom.2.2.2.2.1 pc = some X → zk_TH RX10 cX10_addRoom rm_X10_addRoom pc X := fun pc X h => by
    have h2 := zk_lka_mem h
    simp only [List.mem_cons, List.not_mem_nil, or_false, Prod.mk.injEq] at h2
    rcases h2 with ⟨rfl, rfl⟩ | ⟨rfl, rfl⟩ | ⟨rfl, rfl⟩
    · exact TH_X10_addRoom_61
    · exact TH_X10_addRoom_87
    · exact TH_X10_addRoom_129
def cl_X10_removeRoom : List (Nat × List (Nat × Instr)) := [(20, [(0, .aload_n 0), (1, .iload_n 1), (2, .invokevirtual 76), (5, .astore_n 2), (6, .aload_n 0), (7, .getfield 12), (10, .getfield 72), (13, .aload_n 2), (14, .getfield 80), (17, .aconst_null), (18, .aastore), (19, .aload_n 0)]),
  (33, [(20, .iconst 0), (21, .putfield 37), (24, .aload_n 0), (25, .getfield 12), (28, .aload_n 2), (29, .invokevirtual 83), (32, .ireturn)])]
theorem clo_X10_removeRoom : zk_okc cX10_removeRoom cl_X10_removeRoom = true := by decide +kernel
def rm_X10_removeRoom : Room := { frames := 7, cells := 1, slots := 6, locals := 104 }
def M_X10_removeRoom : zk_M := (zk_lkc cl_X10_removeRoom, zk_in [], tb_X10, (some (.int), 1, 6), (zk_lka [], fun _ _ => none, zk_in [], zk_in [], zk_lka []))
theorem MO_X10_removeRoom : zk_MO RX10 cX10_removeRoom (yX10_removeRoom.name = "<init>") M_X10_removeRoom := zk_MO_of clo_X10_removeRoom rfl tbo_X10
theorem TO_X10_removeRoom : zk_TO RX10 cX10_removeRoom rm_X10_removeRoom M_X10_removeRoom := ⟨fun pc h => absurd (zk_in_mem h) List.not_mem_nil, fun pc h => absurd (zk_in_mem h) List.not_mem_nil, fun pc tag h => absurd (zk_lka_mem h) List.not_mem_nil⟩
theorem THo_X10_removeRoom : ∀ pc X, M_X10_removeRoom.2.2.2.2.1 pc = some X → zk_TH RX10 cX10_removeRoom rm_X10_removeRoom pc X := fun pc X h => absurd (zk_lka_mem h) List.not_mem_nil
def cl_X10_setPeople : List (Nat × List (Nat × Instr)) := [(22, [(0, .aload_n 0), (1, .iload_n 1), (2, .invokevirtual 76), (5, .astore_n 3), (6, .iload_n 2), (7, .iconst 0), (8, .sipush 200), (11, .invokestatic 41), (14, .ifCond .ne 13), (17, .new 45), (20, .dup), (21, .ldc 87)]),
  (44, [(23, .invokespecial 49), (26, .athrow), (27, .aload_n 3), (28, .getfield 89), (31, .istore 4), (33, .aload_n 3), (34, .iload_n 2), (35, .putfield 89), (38, .aload_n 0), (39, .iconst 0), (40, .putfield 37), (43, .iload 4)]),
  (46, [(45, .ireturn)])]
theorem clo_X10_setPeople : zk_okc cX10_setPeople cl_X10_setPeople = true := by decide +kernel
def rm_X10_setPeople : Room := { frames := 7, cells := 2, slots := 12, locals := 104 }
def M_X10_setPeople : zk_M := (zk_lkc cl_X10_setPeople, zk_in [], tb_X10, (some (.int), 2, 12), (zk_lka [(17, "java/lang/IllegalArgumentException")], fun _ _ => none, zk_in [], zk_in [], zk_lka []))
theorem MO_X10_setPeople : zk_MO RX10 cX10_setPeople (yX10_setPeople.name = "<init>") M_X10_setPeople := zk_MO_of clo_X10_setPeople rfl tbo_X10
theorem TO_X10_setPeople : zk_TO RX10 cX10_setPeople rm_X10_setPeople M_X10_setPeople := ⟨fun pc h => absurd (zk_in_mem h) List.not_mem_nil, fun pc h => absurd (zk_in_mem h) List.not_mem_nil, fun pc tag h => absurd (zk_lka_mem h) List.not_mem_nil⟩
theorem TH_X10_setPeople_17 : zk_TH RX10 cX10_setPeople rm_X10_setPeople 17 "java/lang/IllegalArgumentException" := ⟨45, 87, 49, "people are 0 to 200", ["java/lang/RuntimeException", "java/lang/Exception"], zk_wi 287 (by decide +kernel) rfl, zk_wi 10 (by decide +kernel) rfl, by decide +kernel, ats_0, by decide +kernel, by decide +kernel, by decide, by decide, by decide +kernel, by decide +kernel, Or.inl ⟨by decide +kernel, by decide +kernel, by decide +kernel⟩⟩
theorem THo_X10_setPeople : ∀ pc X, M_X10_setPeople.2.2.2.2.1 pc = some X → zk_TH RX10 cX10_setPeople rm_X10_setPeople pc X := fun pc X h => by
    have h2 := zk_lka_mem h
    simp only [List.mem_cons, List.not_mem_nil, or_false, Prod.mk.injEq] at h2
    rcases h2 with ⟨rfl, rfl⟩
    exact TH_X10_setPeople_17
def cl_X10_addDoor : List (Nat × List (Nat × Instr)) := [(19, [(0, .aload_n 0), (1, .iload_n 1), (2, .invokevirtual 76), (5, .astore 7), (7, .iload_n 2), (8, .iconst (-1)), (9, .if_icmp .ne 7), (12, .aconst_null), (13, .goto 8), (16, .aload_n 0), (17, .iload_n 2), (18, .invokevirtual 76)]),
  (48, [(21, .astore 8), (23, .iload 6), (25, .iconst 1), (26, .bipush 6), (28, .invokestatic 41), (31, .ifCond .eq 13), (34, .aload 7), (36, .aload 8), (38, .invokestatic 92), (41, .ifCond .ne 13), (44, .new 45), (47, .dup)]),
  (74, [(48, .ldc 96), (50, .invokespecial 49), (53, .athrow), (54, .aload_n 0), (55, .getfield 12), (58, .getfield 98), (61, .istore 9), (63, .iload 9), (65, .bipush 40), (67, .if_icmp .lt 13), (70, .new 56), (73, .dup)]),
  (97, [(74, .ldc 101), (76, .invokespecial 60), (79, .athrow), (80, .new 103), (83, .dup), (84, .aload 7), (86, .getfield 105), (89, .iload_n 3), (90, .iload 4), (92, .iload 5), (94, .iload 6), (96, .invokespecial 108)]),
  (124, [(99, .astore 10), (101, .aload_n 0), (102, .getfield 12), (105, .aload 10), (107, .aload 7), (109, .aload 8), (111, .invokevirtual 111), (114, .ifCond .ne 13), (117, .new 56), (120, .dup), (121, .ldc 115), (123, .invokespecial 60)]),
  (150, [(126, .athrow), (127, .aload_n 0), (128, .getfield 12), (131, .getfield 117), (134, .iload 9), (136, .new 121), (139, .dup), (140, .aload 7), (142, .aload 8), (144, .aload 10), (146, .invokespecial 123), (149, .aastore)]),
  (169, [(150, .aload_n 0), (151, .getfield 12), (154, .iload 9), (156, .iconst 1), (157, .iadd), (158, .putfield 98), (161, .aload_n 0), (162, .iconst 0), (163, .putfield 37), (166, .iload 9), (168, .ireturn)])]
theorem clo_X10_addDoor : zk_okc cX10_addDoor cl_X10_addDoor = true := by decide +kernel
def rm_X10_addDoor : Room := { frames := 7, cells := 7, slots := 43, locals := 113 }
def M_X10_addDoor : zk_M := (zk_lkc cl_X10_addDoor, zk_in [], tb_X10, (some (.int), 7, 43), (zk_lka [(44, "java/lang/IllegalArgumentException"), (70, "java/lang/IllegalStateException"), (117, "java/lang/IllegalStateException")], fun _ _ => none, zk_in [], zk_in [], zk_lka []))
theorem MO_X10_addDoor : zk_MO RX10 cX10_addDoor (yX10_addDoor.name = "<init>") M_X10_addDoor := zk_MO_of clo_X10_addDoor rfl tbo_X10
theorem TO_X10_addDoor : zk_TO RX10 cX10_addDoor rm_X10_addDoor M_X10_addDoor := ⟨fun pc h => absurd (zk_in_mem h) List.not_mem_nil, fun pc h => absurd (zk_in_mem h) List.not_mem_nil, fun pc tag h => absurd (zk_lka_mem h) List.not_mem_nil⟩
theorem TH_X10_addDoor_44 : zk_TH RX10 cX10_addDoor rm_X10_addDoor 44 "java/lang/IllegalArgumentException" := ⟨45, 96, 49, "no such width, or no door between these", ["java/lang/RuntimeException", "java/lang/Exception"], zk_wi 287 (by decide +kernel) rfl, zk_wi 10 (by decide +kernel) rfl, by decide +kernel, ats_0, by decide +kernel, by decide +kernel, by decide, by decide, by decide +kernel, by decide +kernel, Or.inl ⟨by decide +kernel, by decide +kernel, by decide +kernel⟩⟩
theorem TH_X10_addDoor_70 : zk_TH RX10 cX10_addDoor rm_X10_addDoor 70 "java/lang/IllegalStateException" := ⟨56, 101, 60, "all doors were put in", ["java/lang/RuntimeException", "java/lang/Exception"], zk_wi 651 (by decide +kernel) rfl, zk_wi 11 (by decide +kernel) rfl, by decide +kernel, ats_1, by decide +kernel, by decide +kernel, by decide, by decide, by decide +kernel, by decide +kernel, Or.inl ⟨by decide +kernel, by decide +kernel, by decide +kernel⟩⟩
theorem TH_X10_addDoor_117 : zk_TH RX10 cX10_addDoor rm_X10_addDoor 117 "java/lang/IllegalStateException" := ⟨56, 115, 60, "a door cannot be there", ["java/lang/RuntimeException", "java/lang/Exception"], zk_wi 651 (by decide +kernel) rfl, zk_wi 11 (by decide +kernel) rfl, by decide +kernel, ats_1, by decide +kernel, by decide +kernel, by decide, by decide, by decide +kernel, by decide +kernel, Or.inl ⟨by decide +kernel, by decide +kernel, by decide +kernel⟩⟩
theorem THo_X10_addDoor : ∀ pc X, M_X10_addDoor.2.2.2.2.1 pc = some X → zk_TH RX10 cX10_addDoor rm_X10_addDoor pc X := fun pc X h => by
    have h2 := zk_lka_mem h
    simp only [List.mem_cons, List.not_mem_nil, or_false, Prod.mk.injEq] at h2
    rcases h2 with ⟨rfl, rfl⟩ | ⟨rfl, rfl⟩ | ⟨rfl, rfl⟩
    · exact TH_X10_addDoor_44
    · exact TH_X10_addDoor_70
    · exact TH_X10_addDoor_117
def cl_X10_addStairs : List (Nat × List (Nat × Instr)) := [(22, [(0, .aload_n 0), (1, .iload_n 1), (2, .invokevirtual 76), (5, .astore 5), (7, .aload_n 0), (8, .iload_n 2), (9, .invokevirtual 76), (12, .astore 6), (14, .aload 6), (16, .getfield 105), (19, .aload 5), (21, .getfield 105)]),
  (46, [(24, .iconst 1), (25, .iadd), (26, .if_icmp .ne 25), (29, .aload 5), (31, .iload_n 3), (32, .iload 4), (34, .invokevirtual 147), (37, .ifCond .eq 14), (40, .aload 6), (42, .iload_n 3), (43, .iload 4), (45, .invokevirtual 147)]),
  (73, [(48, .ifCond .ne 13), (51, .new 45), (54, .dup), (55, .ldc 151), (57, .invokespecial 49), (60, .athrow), (61, .aload_n 0), (62, .getfield 12), (65, .getfield 153), (68, .istore 7), (70, .iload 7), (72, .bipush 10)]),
  (100, [(74, .if_icmp .lt 13), (77, .new 56), (80, .dup), (81, .ldc 156), (83, .invokespecial 60), (86, .athrow), (87, .aload_n 0), (88, .getfield 12), (91, .getfield 158), (94, .iload 7), (96, .new 162), (99, .dup)]),
  (120, [(100, .aload 5), (102, .aload 6), (104, .iload_n 3), (105, .iload 4), (107, .invokespecial 164), (110, .aastore), (111, .aload_n 0), (112, .getfield 12), (115, .iload 7), (117, .iconst 1), (118, .iadd), (119, .putfield 153)]),
  (130, [(122, .aload_n 0), (123, .iconst 0), (124, .putfield 37), (127, .iload 7), (129, .ireturn)])]
theorem clo_X10_addStairs : zk_okc cX10_addStairs cl_X10_addStairs = true := by decide +kernel
def rm_X10_addStairs : Room := { frames := 7, cells := 5, slots := 31, locals := 104 }
def M_X10_addStairs : zk_M := (zk_lkc cl_X10_addStairs, zk_in [], tb_X10, (some (.int), 5, 31), (zk_lka [(51, "java/lang/IllegalArgumentException"), (77, "java/lang/IllegalStateException")], fun _ _ => none, zk_in [], zk_in [], zk_lka []))
theorem MO_X10_addStairs : zk_MO RX10 cX10_addStairs (yX10_addStairs.name = "<init>") M_X10_addStairs := zk_MO_of clo_X10_addStairs rfl tbo_X10
theorem TO_X10_addStairs : zk_TO RX10 cX10_addStairs rm_X10_addStairs M_X10_addStairs := ⟨fun pc h => absurd (zk_in_mem h) List.not_mem_nil, fun pc h => absurd (zk_in_mem h) List.not_mem_nil, fun pc tag h => absurd (zk_lka_mem h) List.not_mem_nil⟩
theorem TH_X10_addStairs_51 : zk_TH RX10 cX10_addStairs rm_X10_addStairs 51 "java/lang/IllegalArgumentException" := ⟨45, 151, 49, "not one floor above, or the point is not in both", ["java/lang/RuntimeException", "java/lang/Exception"], zk_wi 287 (by decide +kernel) rfl, zk_wi 10 (by decide +kernel) rfl, by decide +kernel, ats_0, by decide +kernel, by decide +kernel, by decide, by decide, by decide +kernel, by decide +kernel, Or.inl ⟨by decide +kernel, by decide +kernel, by decide +kernel⟩⟩
theorem TH_X10_addStairs_77 : zk_TH RX10 cX10_addStairs rm_X10_addStairs 77 "java/lang/IllegalStateException" := ⟨56, 156, 60, "all stairs were put in", ["java/lang/RuntimeException", "java/lang/Exception"], zk_wi 651 (by decide +kernel) rfl, zk_wi 11 (by decide +kernel) rfl, by decide +kernel, ats_1, by decide +kernel, by decide +kernel, by decide, by decide, by decide +kernel, by decide +kernel, Or.inl ⟨by decide +kernel, by decide +kernel, by decide +kernel⟩⟩
theorem THo_X10_addStairs : ∀ pc X, M_X10_addStairs.2.2.2.2.1 pc = some X → zk_TH RX10 cX10_addStairs rm_X10_addStairs pc X := fun pc X h => by
    have h2 := zk_lka_mem h
    simp only [List.mem_cons, List.not_mem_nil, or_false, Prod.mk.injEq] at h2
    rcases h2 with ⟨rfl, rfl⟩ | ⟨rfl, rfl⟩
    · exact TH_X10_addStairs_51
    · exact TH_X10_addStairs_77
def cl_X10_shut : List (Nat × List (Nat × Instr)) := [(19, [(0, .aload_n 0), (1, .iload_n 1), (2, .invokevirtual 167), (5, .astore_n 3), (6, .aload_n 3), (7, .getfield 171), (10, .istore 4), (12, .aload_n 3), (13, .iload_n 2), (14, .putfield 171), (17, .aload_n 0), (18, .iconst 0)]),
  (25, [(19, .putfield 37), (22, .iload 4), (24, .ireturn)])]
theorem clo_X10_shut : zk_okc cX10_shut cl_X10_shut = true := by decide +kernel
def rm_X10_shut : Room := { frames := 7, cells := 1, slots := 6, locals := 104 }
def M_X10_shut : zk_M := (zk_lkc cl_X10_shut, zk_in [], tb_X10, (some (.boolean), 1, 6), (zk_lka [], fun _ _ => none, zk_in [], zk_in [], zk_lka []))
theorem MO_X10_shut : zk_MO RX10 cX10_shut (yX10_shut.name = "<init>") M_X10_shut := zk_MO_of clo_X10_shut rfl tbo_X10
theorem TO_X10_shut : zk_TO RX10 cX10_shut rm_X10_shut M_X10_shut := ⟨fun pc h => absurd (zk_in_mem h) List.not_mem_nil, fun pc h => absurd (zk_in_mem h) List.not_mem_nil, fun pc tag h => absurd (zk_lka_mem h) List.not_mem_nil⟩
theorem THo_X10_shut : ∀ pc X, M_X10_shut.2.2.2.2.1 pc = some X → zk_TH RX10 cX10_shut rm_X10_shut pc X := fun pc X h => absurd (zk_lka_mem h) List.not_mem_nil
def cl_X10_rooms : List (Nat × List (Nat × Instr)) := [(17, [(0, .iconst 0), (1, .istore_n 1), (2, .aload_n 0), (3, .getfield 12), (6, .getfield 72), (9, .astore_n 2), (10, .aload_n 2), (11, .arraylength), (12, .istore_n 3), (13, .iconst 0), (14, .istore 4), (16, .iload 4)]),
  (43, [(18, .iload_n 3), (19, .if_icmp .ge 23), (22, .aload_n 2), (23, .iload 4), (25, .aaload), (26, .astore 5), (28, .aload 5), (30, .ifnull 6), (33, .iinc 1 1), (36, .iinc 4 1), (39, .goto (-23)), (42, .iload_n 1)]),
  (44, [(43, .ireturn)])]
theorem clo_X10_rooms : zk_okc cX10_rooms cl_X10_rooms = true := by decide +kernel
def rm_X10_rooms : Room := { frames := 0, cells := 0, slots := 0, locals := 0 }
def M_X10_rooms : zk_M := (zk_lkc cl_X10_rooms, zk_in [16], tb_X10, (some (.int), 0, 0), (zk_lka [], fun _ _ => none, zk_in [], zk_in [], zk_lka []))
theorem MO_X10_rooms : zk_MO RX10 cX10_rooms (yX10_rooms.name = "<init>") M_X10_rooms := zk_MO_of clo_X10_rooms rfl tbo_X10
theorem TO_X10_rooms : zk_TO RX10 cX10_rooms rm_X10_rooms M_X10_rooms := ⟨fun pc h => absurd (zk_in_mem h) List.not_mem_nil, fun pc h => absurd (zk_in_mem h) List.not_mem_nil, fun pc tag h => absurd (zk_lka_mem h) List.not_mem_nil⟩
theorem THo_X10_rooms : ∀ pc X, M_X10_rooms.2.2.2.2.1 pc = some X → zk_TH RX10 cX10_rooms rm_X10_rooms pc X := fun pc X h => absurd (zk_lka_mem h) List.not_mem_nil
def cl_X10_doors : List (Nat × List (Nat × Instr)) := [(11, [(0, .aload_n 0), (1, .getfield 12), (4, .iconst 0), (5, .bipush 40), (7, .invokevirtual 174), (10, .ireturn)])]
theorem clo_X10_doors : zk_okc cX10_doors cl_X10_doors = true := by decide +kernel
def rm_X10_doors : Room := { frames := 2, cells := 0, slots := 0, locals := 45 }
def M_X10_doors : zk_M := (zk_lkc cl_X10_doors, zk_in [], tb_X10, (some (.int), 0, 0), (zk_lka [], fun _ _ => none, zk_in [], zk_in [], zk_lka []))
theorem MO_X10_doors : zk_MO RX10 cX10_doors (yX10_doors.name = "<init>") M_X10_doors := zk_MO_of clo_X10_doors rfl tbo_X10
theorem TO_X10_doors : zk_TO RX10 cX10_doors rm_X10_doors M_X10_doors := ⟨fun pc h => absurd (zk_in_mem h) List.not_mem_nil, fun pc h => absurd (zk_in_mem h) List.not_mem_nil, fun pc tag h => absurd (zk_lka_mem h) List.not_mem_nil⟩
theorem THo_X10_doors : ∀ pc X, M_X10_doors.2.2.2.2.1 pc = some X → zk_TH RX10 cX10_doors rm_X10_doors pc X := fun pc X h => absurd (zk_lka_mem h) List.not_mem_nil
def cl_X10_stairs : List (Nat × List (Nat × Instr)) := [(12, [(0, .aload_n 0), (1, .getfield 12), (4, .bipush 40), (6, .bipush 50), (8, .invokevirtual 174), (11, .ireturn)])]
theorem clo_X10_stairs : zk_okc cX10_stairs cl_X10_stairs = true := by decide +kernel
def rm_X10_stairs : Room := { frames := 2, cells := 0, slots := 0, locals := 45 }
def M_X10_stairs : zk_M := (zk_lkc cl_X10_stairs, zk_in [], tb_X10, (some (.int), 0, 0), (zk_lka [], fun _ _ => none, zk_in [], zk_in [], zk_lka []))
theorem MO_X10_stairs : zk_MO RX10 cX10_stairs (yX10_stairs.name = "<init>") M_X10_stairs := zk_MO_of clo_X10_stairs rfl tbo_X10
theorem TO_X10_stairs : zk_TO RX10 cX10_stairs rm_X10_stairs M_X10_stairs := ⟨fun pc h => absurd (zk_in_mem h) List.not_mem_nil, fun pc h => absurd (zk_in_mem h) List.not_mem_nil, fun pc tag h => absurd (zk_lka_mem h) List.not_mem_nil⟩
theorem THo_X10_stairs : ∀ pc X, M_X10_stairs.2.2.2.2.1 pc = some X → zk_TH RX10 cX10_stairs rm_X10_stairs pc X := fun pc X h => absurd (zk_lka_mem h) List.not_mem_nil
def cl_X10_isLost : List (Nat × List (Nat × Instr)) := [(22, [(0, .aload_n 0), (1, .iload_n 1), (2, .invokevirtual 76), (5, .astore_n 2), (6, .aload_n 0), (7, .invokevirtual 197), (10, .aload_n 0), (11, .getfield 19), (14, .getfield 200), (17, .aload_n 2), (18, .getfield 80), (21, .iaload)]),
  (32, [(22, .iconst (-1)), (23, .if_icmp .ne 7), (26, .iconst 1), (27, .goto 4), (30, .iconst 0), (31, .ireturn)])]
theorem clo_X10_isLost : zk_okc cX10_isLost cl_X10_isLost = true := by decide +kernel
def rm_X10_isLost : Room := { frames := 7, cells := 1, slots := 6, locals := 150 }
def M_X10_isLost : zk_M := (zk_lkc cl_X10_isLost, zk_in [], tb_X10, (some (.boolean), 1, 6), (zk_lka [], fun _ _ => none, zk_in [], zk_in [], zk_lka []))
theorem MO_X10_isLost : zk_MO RX10 cX10_isLost (yX10_isLost.name = "<init>") M_X10_isLost := zk_MO_of clo_X10_isLost rfl tbo_X10
theorem TO_X10_isLost : zk_TO RX10 cX10_isLost rm_X10_isLost M_X10_isLost := ⟨fun pc h => absurd (zk_in_mem h) List.not_mem_nil, fun pc h => absurd (zk_in_mem h) List.not_mem_nil, fun pc tag h => absurd (zk_lka_mem h) List.not_mem_nil⟩
theorem THo_X10_isLost : ∀ pc X, M_X10_isLost.2.2.2.2.1 pc = some X → zk_TH RX10 cX10_isLost rm_X10_isLost pc X := fun pc X h => absurd (zk_lka_mem h) List.not_mem_nil
def cl_X10_farWay : List (Nat × List (Nat × Instr)) := [(22, [(0, .aload_n 0), (1, .iload_n 1), (2, .invokevirtual 76), (5, .astore_n 2), (6, .aload_n 0), (7, .invokevirtual 197), (10, .aload_n 0), (11, .getfield 19), (14, .getfield 203), (17, .aload_n 2), (18, .getfield 80), (21, .iaload)]),
  (23, [(22, .ireturn)])]
theorem clo_X10_farWay : zk_okc cX10_farWay cl_X10_farWay = true := by decide +kernel
def rm_X10_farWay : Room := { frames := 7, cells := 1, slots := 6, locals := 150 }
def M_X10_farWay : zk_M := (zk_lkc cl_X10_farWay, zk_in [], tb_X10, (some (.int), 1, 6), (zk_lka [], fun _ _ => none, zk_in [], zk_in [], zk_lka []))
theorem MO_X10_farWay : zk_MO RX10 cX10_farWay (yX10_farWay.name = "<init>") M_X10_farWay := zk_MO_of clo_X10_farWay rfl tbo_X10
theorem TO_X10_farWay : zk_TO RX10 cX10_farWay rm_X10_farWay M_X10_farWay := ⟨fun pc h => absurd (zk_in_mem h) List.not_mem_nil, fun pc h => absurd (zk_in_mem h) List.not_mem_nil, fun pc tag h => absurd (zk_lka_mem h) List.not_mem_nil⟩
theorem THo_X10_farWay : ∀ pc X, M_X10_farWay.2.2.2.2.1 pc = some X → zk_TH RX10 cX10_farWay rm_X10_farWay pc X := fun pc X h => absurd (zk_lka_mem h) List.not_mem_nil
def cl_X10_leaving : List (Nat × List (Nat × Instr)) := [(19, [(0, .aload_n 0), (1, .iload_n 1), (2, .invokevirtual 76), (5, .astore_n 2), (6, .aload_n 0), (7, .invokevirtual 197), (10, .aload_n 0), (11, .aload_n 2), (12, .getfield 80), (15, .invokevirtual 206), (18, .ireturn)])]
theorem clo_X10_leaving : zk_okc cX10_leaving cl_X10_leaving = true := by decide +kernel
def rm_X10_leaving : Room := { frames := 7, cells := 1, slots := 6, locals := 150 }
def M_X10_leaving : zk_M := (zk_lkc cl_X10_leaving, zk_in [], tb_X10, (some (.int), 1, 6), (zk_lka [], fun _ _ => none, zk_in [], zk_in [], zk_lka []))
theorem MO_X10_leaving : zk_MO RX10 cX10_leaving (yX10_leaving.name = "<init>") M_X10_leaving := zk_MO_of clo_X10_leaving rfl tbo_X10
theorem TO_X10_leaving : zk_TO RX10 cX10_leaving rm_X10_leaving M_X10_leaving := ⟨fun pc h => absurd (zk_in_mem h) List.not_mem_nil, fun pc h => absurd (zk_in_mem h) List.not_mem_nil, fun pc tag h => absurd (zk_lka_mem h) List.not_mem_nil⟩
theorem THo_X10_leaving : ∀ pc X, M_X10_leaving.2.2.2.2.1 pc = some X → zk_TH RX10 cX10_leaving rm_X10_leaving pc X := fun pc X h => absurd (zk_lka_mem h) List.not_mem_nil
def cl_X10_middleWay : List (Nat × List (Nat × Instr)) := [(22, [(0, .aload_n 0), (1, .iload_n 1), (2, .invokevirtual 76), (5, .astore_n 2), (6, .aload_n 0), (7, .invokevirtual 197), (10, .aload_n 0), (11, .getfield 19), (14, .getfield 210), (17, .aload_n 2), (18, .getfield 80), (21, .iaload)]),
  (23, [(22, .ireturn)])]
theorem clo_X10_middleWay : zk_okc cX10_middleWay cl_X10_middleWay = true := by decide +kernel
def rm_X10_middleWay : Room := { frames := 7, cells := 1, slots := 6, locals := 150 }
def M_X10_middleWay : zk_M := (zk_lkc cl_X10_middleWay, zk_in [], tb_X10, (some (.int), 1, 6), (zk_lka [], fun _ _ => none, zk_in [], zk_in [], zk_lka []))
theorem MO_X10_middleWay : zk_MO RX10 cX10_middleWay (yX10_middleWay.name = "<init>") M_X10_middleWay := zk_MO_of clo_X10_middleWay rfl tbo_X10
theorem TO_X10_middleWay : zk_TO RX10 cX10_middleWay rm_X10_middleWay M_X10_middleWay := ⟨fun pc h => absurd (zk_in_mem h) List.not_mem_nil, fun pc h => absurd (zk_in_mem h) List.not_mem_nil, fun pc tag h => absurd (zk_lka_mem h) List.not_mem_nil⟩
theorem THo_X10_middleWay : ∀ pc X, M_X10_middleWay.2.2.2.2.1 pc = some X → zk_TH RX10 cX10_middleWay rm_X10_middleWay pc X := fun pc X h => absurd (zk_lka_mem h) List.not_mem_nil
def cl_X10_depth : List (Nat × List (Nat × Instr)) := [(22, [(0, .aload_n 0), (1, .iload_n 1), (2, .invokevirtual 76), (5, .astore_n 2), (6, .aload_n 0), (7, .invokevirtual 197), (10, .aload_n 0), (11, .getfield 19), (14, .getfield 213), (17, .aload_n 2), (18, .getfield 80), (21, .iaload)]),
  (23, [(22, .ireturn)])]
theorem clo_X10_depth : zk_okc cX10_depth cl_X10_depth = true := by decide +kernel
def rm_X10_depth : Room := { frames := 7, cells := 1, slots := 6, locals := 150 }
def M_X10_depth : zk_M := (zk_lkc cl_X10_depth, zk_in [], tb_X10, (some (.int), 1, 6), (zk_lka [], fun _ _ => none, zk_in [], zk_in [], zk_lka []))
theorem MO_X10_depth : zk_MO RX10 cX10_depth (yX10_depth.name = "<init>") M_X10_depth := zk_MO_of clo_X10_depth rfl tbo_X10
theorem TO_X10_depth : zk_TO RX10 cX10_depth rm_X10_depth M_X10_depth := ⟨fun pc h => absurd (zk_in_mem h) List.not_mem_nil, fun pc h => absurd (zk_in_mem h) List.not_mem_nil, fun pc tag h => absurd (zk_lka_mem h) List.not_mem_nil⟩
theorem THo_X10_depth : ∀ pc X, M_X10_depth.2.2.2.2.1 pc = some X → zk_TH RX10 cX10_depth rm_X10_depth pc X := fun pc X h => absurd (zk_lka_mem h) List.not_mem_nil
def cl_X10_way : List (Nat × List (Nat × Instr)) := [(22, [(0, .aload_n 0), (1, .iload_n 1), (2, .invokevirtual 167), (5, .pop), (6, .aload_n 0), (7, .invokevirtual 197), (10, .iload_n 2), (11, .ifCond .eq 15), (14, .aload_n 0), (15, .getfield 19), (18, .getfield 216), (21, .iload_n 1)]),
  (36, [(22, .iaload), (23, .goto 12), (26, .aload_n 0), (27, .getfield 19), (30, .getfield 219), (33, .iload_n 1), (34, .iaload), (35, .ireturn)])]
theorem clo_X10_way : zk_okc cX10_way cl_X10_way = true := by decide +kernel
def rm_X10_way : Room := { frames := 7, cells := 1, slots := 6, locals := 150 }
def M_X10_way : zk_M := (zk_lkc cl_X10_way, zk_in [], tb_X10, (some (.int), 1, 6), (zk_lka [], fun _ _ => none, zk_in [], zk_in [], zk_lka []))
theorem MO_X10_way : zk_MO RX10 cX10_way (yX10_way.name = "<init>") M_X10_way := zk_MO_of clo_X10_way rfl tbo_X10
theorem TO_X10_way : zk_TO RX10 cX10_way rm_X10_way M_X10_way := ⟨fun pc h => absurd (zk_in_mem h) List.not_mem_nil, fun pc h => absurd (zk_in_mem h) List.not_mem_nil, fun pc tag h => absurd (zk_lka_mem h) List.not_mem_nil⟩
theorem THo_X10_way : ∀ pc X, M_X10_way.2.2.2.2.1 pc = some X → zk_TH RX10 cX10_way rm_X10_way pc X := fun pc X h => absurd (zk_lka_mem h) List.not_mem_nil
def cl_X10_load : List (Nat × List (Nat × Instr)) := [(20, [(0, .aload_n 0), (1, .iload_n 1), (2, .invokevirtual 167), (5, .pop), (6, .aload_n 0), (7, .invokevirtual 197), (10, .aload_n 0), (11, .getfield 19), (14, .getfield 222), (17, .iload_n 1), (18, .iaload), (19, .ireturn)])]
theorem clo_X10_load : zk_okc cX10_load cl_X10_load = true := by decide +kernel
def rm_X10_load : Room := { frames := 7, cells := 1, slots := 6, locals := 150 }
def M_X10_load : zk_M := (zk_lkc cl_X10_load, zk_in [], tb_X10, (some (.int), 1, 6), (zk_lka [], fun _ _ => none, zk_in [], zk_in [], zk_lka []))
theorem MO_X10_load : zk_MO RX10 cX10_load (yX10_load.name = "<init>") M_X10_load := zk_MO_of clo_X10_load rfl tbo_X10
theorem TO_X10_load : zk_TO RX10 cX10_load rm_X10_load M_X10_load := ⟨fun pc h => absurd (zk_in_mem h) List.not_mem_nil, fun pc h => absurd (zk_in_mem h) List.not_mem_nil, fun pc tag h => absurd (zk_lka_mem h) List.not_mem_nil⟩
theorem THo_X10_load : ∀ pc X, M_X10_load.2.2.2.2.1 pc = some X → zk_TH RX10 cX10_load rm_X10_load pc X := fun pc X h => absurd (zk_lka_mem h) List.not_mem_nil
def cl_X10_timeOut : List (Nat × List (Nat × Instr)) := [(20, [(0, .aload_n 0), (1, .invokevirtual 197), (4, .aload_n 0), (5, .getfield 26), (8, .aload_n 0), (9, .getfield 12), (12, .aload_n 0), (13, .getfield 19), (16, .invokevirtual 227), (19, .ireturn)])]
theorem clo_X10_timeOut : zk_okc cX10_timeOut cl_X10_timeOut = true := by decide +kernel
def rm_X10_timeOut : Room := { frames := 6, cells := 0, slots := 0, locals := 150 }
def M_X10_timeOut : zk_M := (zk_lkc cl_X10_timeOut, zk_in [], tb_X10, (some (.int), 0, 0), (zk_lka [], fun _ _ => none, zk_in [], zk_in [], zk_lka []))
theorem MO_X10_timeOut : zk_MO RX10 cX10_timeOut (yX10_timeOut.name = "<init>") M_X10_timeOut := zk_MO_of clo_X10_timeOut rfl tbo_X10
theorem TO_X10_timeOut : zk_TO RX10 cX10_timeOut rm_X10_timeOut M_X10_timeOut := ⟨fun pc h => absurd (zk_in_mem h) List.not_mem_nil, fun pc h => absurd (zk_in_mem h) List.not_mem_nil, fun pc tag h => absurd (zk_lka_mem h) List.not_mem_nil⟩
theorem THo_X10_timeOut : ∀ pc X, M_X10_timeOut.2.2.2.2.1 pc = some X → zk_TH RX10 cX10_timeOut rm_X10_timeOut pc X := fun pc X h => absurd (zk_lka_mem h) List.not_mem_nil
def cl_X10_left : List (Nat × List (Nat × Instr)) := [(22, [(0, .iload_n 1), (1, .invokestatic 231), (4, .aload_n 0), (5, .invokevirtual 197), (8, .aload_n 0), (9, .getfield 26), (12, .aload_n 0), (13, .getfield 12), (16, .aload_n 0), (17, .getfield 19), (20, .iload_n 1), (21, .invokevirtual 235)]),
  (32, [(24, .aload_n 0), (25, .getfield 26), (28, .invokevirtual 239), (31, .ireturn)])]
theorem clo_X10_left : zk_okc cX10_left cl_X10_left = true := by decide +kernel
def rm_X10_left : Room := { frames := 7, cells := 1, slots := 6, locals := 150 }
def M_X10_left : zk_M := (zk_lkc cl_X10_left, zk_in [], tb_X10, (some (.int), 1, 6), (zk_lka [], fun _ _ => none, zk_in [], zk_in [], zk_lka []))
theorem MO_X10_left : zk_MO RX10 cX10_left (yX10_left.name = "<init>") M_X10_left := zk_MO_of clo_X10_left rfl tbo_X10
theorem TO_X10_left : zk_TO RX10 cX10_left rm_X10_left M_X10_left := ⟨fun pc h => absurd (zk_in_mem h) List.not_mem_nil, fun pc h => absurd (zk_in_mem h) List.not_mem_nil, fun pc tag h => absurd (zk_lka_mem h) List.not_mem_nil⟩
theorem THo_X10_left : ∀ pc X, M_X10_left.2.2.2.2.1 pc = some X → zk_TH RX10 cX10_left rm_X10_left pc X := fun pc X h => absurd (zk_lka_mem h) List.not_mem_nil
def cl_X10_inRoom : List (Nat × List (Nat × Instr)) := [(20, [(0, .aload_n 0), (1, .iload_n 1), (2, .invokevirtual 76), (5, .astore_n 3), (6, .iload_n 2), (7, .invokestatic 231), (10, .aload_n 0), (11, .invokevirtual 197), (14, .aload_n 0), (15, .getfield 26), (18, .aload_n 0), (19, .getfield 12)]),
  (43, [(22, .aload_n 0), (23, .getfield 19), (26, .iload_n 2), (27, .invokevirtual 235), (30, .aload_n 0), (31, .getfield 26), (34, .getfield 243), (37, .aload_n 3), (38, .getfield 80), (41, .iaload), (42, .ireturn)])]
theorem clo_X10_inRoom : zk_okc cX10_inRoom cl_X10_inRoom = true := by decide +kernel
def rm_X10_inRoom : Room := { frames := 7, cells := 2, slots := 12, locals := 150 }
def M_X10_inRoom : zk_M := (zk_lkc cl_X10_inRoom, zk_in [], tb_X10, (some (.int), 2, 12), (zk_lka [], fun _ _ => none, zk_in [], zk_in [], zk_lka []))
theorem MO_X10_inRoom : zk_MO RX10 cX10_inRoom (yX10_inRoom.name = "<init>") M_X10_inRoom := zk_MO_of clo_X10_inRoom rfl tbo_X10
theorem TO_X10_inRoom : zk_TO RX10 cX10_inRoom rm_X10_inRoom M_X10_inRoom := ⟨fun pc h => absurd (zk_in_mem h) List.not_mem_nil, fun pc h => absurd (zk_in_mem h) List.not_mem_nil, fun pc tag h => absurd (zk_lka_mem h) List.not_mem_nil⟩
theorem THo_X10_inRoom : ∀ pc X, M_X10_inRoom.2.2.2.2.1 pc = some X → zk_TH RX10 cX10_inRoom rm_X10_inRoom pc X := fun pc X h => absurd (zk_lka_mem h) List.not_mem_nil
def cl_X10_faults : List (Nat × List (Nat × Instr)) := [(12, [(0, .aload_n 0), (1, .invokevirtual 197), (4, .aload_n 0), (5, .getfield 33), (8, .getfield 246), (11, .ireturn)])]
theorem clo_X10_faults : zk_okc cX10_faults cl_X10_faults = true := by decide +kernel
def rm_X10_faults : Room := { frames := 6, cells := 0, slots := 0, locals := 150 }
def M_X10_faults : zk_M := (zk_lkc cl_X10_faults, zk_in [], tb_X10, (some (.int), 0, 0), (zk_lka [], fun _ _ => none, zk_in [], zk_in [], zk_lka []))
theorem MO_X10_faults : zk_MO RX10 cX10_faults (yX10_faults.name = "<init>") M_X10_faults := zk_MO_of clo_X10_faults rfl tbo_X10
theorem TO_X10_faults : zk_TO RX10 cX10_faults rm_X10_faults M_X10_faults := ⟨fun pc h => absurd (zk_in_mem h) List.not_mem_nil, fun pc h => absurd (zk_in_mem h) List.not_mem_nil, fun pc tag h => absurd (zk_lka_mem h) List.not_mem_nil⟩
theorem THo_X10_faults : ∀ pc X, M_X10_faults.2.2.2.2.1 pc = some X → zk_TH RX10 cX10_faults rm_X10_faults pc X := fun pc X h => absurd (zk_lka_mem h) List.not_mem_nil
def cl_X10_ruleOf : List (Nat × List (Nat × Instr)) := [(19, [(0, .aload_n 0), (1, .invokevirtual 197), (4, .aload_n 0), (5, .iload_n 1), (6, .invokevirtual 249), (9, .aload_n 0), (10, .getfield 33), (13, .getfield 252), (16, .iload_n 1), (17, .iaload), (18, .ireturn)])]
theorem clo_X10_ruleOf : zk_okc cX10_ruleOf cl_X10_ruleOf = true := by decide +kernel
def rm_X10_ruleOf : Room := { frames := 7, cells := 1, slots := 6, locals := 150 }
def M_X10_ruleOf : zk_M := (zk_lkc cl_X10_ruleOf, zk_in [], tb_X10, (some (.int), 1, 6), (zk_lka [], fun _ _ => none, zk_in [], zk_in [], zk_lka []))
theorem MO_X10_ruleOf : zk_MO RX10 cX10_ruleOf (yX10_ruleOf.name = "<init>") M_X10_ruleOf := zk_MO_of clo_X10_ruleOf rfl tbo_X10
theorem TO_X10_ruleOf : zk_TO RX10 cX10_ruleOf rm_X10_ruleOf M_X10_ruleOf := ⟨fun pc h => absurd (zk_in_mem h) List.not_mem_nil, fun pc h => absurd (zk_in_mem h) List.not_mem_nil, fun pc tag h => absurd (zk_lka_mem h) List.not_mem_nil⟩
theorem THo_X10_ruleOf : ∀ pc X, M_X10_ruleOf.2.2.2.2.1 pc = some X → zk_TH RX10 cX10_ruleOf rm_X10_ruleOf pc X := fun pc X h => absurd (zk_lka_mem h) List.not_mem_nil
def cl_X10_whereOf : List (Nat × List (Nat × Instr)) := [(19, [(0, .aload_n 0), (1, .invokevirtual 197), (4, .aload_n 0), (5, .iload_n 1), (6, .invokevirtual 249), (9, .aload_n 0), (10, .getfield 33), (13, .getfield 255), (16, .iload_n 1), (17, .iaload), (18, .ireturn)])]
theorem clo_X10_whereOf : zk_okc cX10_whereOf cl_X10_whereOf = true := by decide +kernel
def rm_X10_whereOf : Room := { frames := 7, cells := 1, slots := 6, locals := 150 }
def M_X10_whereOf : zk_M := (zk_lkc cl_X10_whereOf, zk_in [], tb_X10, (some (.int), 1, 6), (zk_lka [], fun _ _ => none, zk_in [], zk_in [], zk_lka []))
theorem MO_X10_whereOf : zk_MO RX10 cX10_whereOf (yX10_whereOf.name = "<init>") M_X10_whereOf := zk_MO_of clo_X10_whereOf rfl tbo_X10
theorem TO_X10_whereOf : zk_TO RX10 cX10_whereOf rm_X10_whereOf M_X10_whereOf := ⟨fun pc h => absurd (zk_in_mem h) List.not_mem_nil, fun pc h => absurd (zk_in_mem h) List.not_mem_nil, fun pc tag h => absurd (zk_lka_mem h) List.not_mem_nil⟩
theorem THo_X10_whereOf : ∀ pc X, M_X10_whereOf.2.2.2.2.1 pc = some X → zk_TH RX10 cX10_whereOf rm_X10_whereOf pc X := fun pc X h => absurd (zk_lka_mem h) List.not_mem_nil
def cl_X10_howMuch : List (Nat × List (Nat × Instr)) := [(19, [(0, .aload_n 0), (1, .invokevirtual 197), (4, .aload_n 0), (5, .iload_n 1), (6, .invokevirtual 249), (9, .aload_n 0), (10, .getfield 33), (13, .getfield 258), (16, .iload_n 1), (17, .iaload), (18, .ireturn)])]
theorem clo_X10_howMuch : zk_okc cX10_howMuch cl_X10_howMuch = true := by decide +kernel
def rm_X10_howMuch : Room := { frames := 7, cells := 1, slots := 6, locals := 150 }
def M_X10_howMuch : zk_M := (zk_lkc cl_X10_howMuch, zk_in [], tb_X10, (some (.int), 1, 6), (zk_lka [], fun _ _ => none, zk_in [], zk_in [], zk_lka []))
theorem MO_X10_howMuch : zk_MO RX10 cX10_howMuch (yX10_howMuch.name = "<init>") M_X10_howMuch := zk_MO_of clo_X10_howMuch rfl tbo_X10
theorem TO_X10_howMuch : zk_TO RX10 cX10_howMuch rm_X10_howMuch M_X10_howMuch := ⟨fun pc h => absurd (zk_in_mem h) List.not_mem_nil, fun pc h => absurd (zk_in_mem h) List.not_mem_nil, fun pc tag h => absurd (zk_lka_mem h) List.not_mem_nil⟩
theorem THo_X10_howMuch : ∀ pc X, M_X10_howMuch.2.2.2.2.1 pc = some X → zk_TH RX10 cX10_howMuch rm_X10_howMuch pc X := fun pc X h => absurd (zk_lka_mem h) List.not_mem_nil
def cl_X10_broken : List (Nat × List (Nat × Instr)) := [(22, [(0, .iload_n 1), (1, .iconst 0), (2, .aload_n 0), (3, .getfield 12), (6, .getfield 178), (9, .arraylength), (10, .iconst 1), (11, .isub), (12, .invokestatic 41), (15, .ifCond .ne 13), (18, .new 182), (21, .dup)]),
  (41, [(22, .ldc 184), (24, .invokespecial 186), (27, .athrow), (28, .aload_n 0), (29, .invokevirtual 197), (32, .aload_n 0), (33, .getfield 33), (36, .iload_n 1), (37, .invokevirtual 261), (40, .ireturn)])]
theorem clo_X10_broken : zk_okc cX10_broken cl_X10_broken = true := by decide +kernel
def rm_X10_broken : Room := { frames := 6, cells := 1, slots := 6, locals := 150 }
def M_X10_broken : zk_M := (zk_lkc cl_X10_broken, zk_in [], tb_X10, (some (.int), 1, 6), (zk_lka [(18, "java/lang/IndexOutOfBoundsException")], fun _ _ => none, zk_in [], zk_in [], zk_lka []))
theorem MO_X10_broken : zk_MO RX10 cX10_broken (yX10_broken.name = "<init>") M_X10_broken := zk_MO_of clo_X10_broken rfl tbo_X10
theorem TO_X10_broken : zk_TO RX10 cX10_broken rm_X10_broken M_X10_broken := ⟨fun pc h => absurd (zk_in_mem h) List.not_mem_nil, fun pc h => absurd (zk_in_mem h) List.not_mem_nil, fun pc tag h => absurd (zk_lka_mem h) List.not_mem_nil⟩
theorem TH_X10_broken_18 : zk_TH RX10 cX10_broken rm_X10_broken 18 "java/lang/IndexOutOfBoundsException" := ⟨182, 184, 186, "no such rule", ["java/lang/RuntimeException", "java/lang/Exception"], zk_wi 31 (by decide +kernel) rfl, zk_wi 14 (by decide +kernel) rfl, by decide +kernel, ats_2, by decide +kernel, by decide +kernel, by decide, by decide, by decide +kernel, by decide +kernel, Or.inl ⟨by decide +kernel, by decide +kernel, by decide +kernel⟩⟩
theorem THo_X10_broken : ∀ pc X, M_X10_broken.2.2.2.2.1 pc = some X → zk_TH RX10 cX10_broken rm_X10_broken pc X := fun pc X h => by
    have h2 := zk_lka_mem h
    simp only [List.mem_cons, List.not_mem_nil, or_false, Prod.mk.injEq] at h2
    rcases h2 with ⟨rfl, rfl⟩
    exact TH_X10_broken_18
def cl_X10_faultsWith : List (Nat × List (Nat × Instr)) := [(20, [(0, .aload_n 0), (1, .iload_n 1), (2, .invokevirtual 167), (5, .astore_n 2), (6, .aload_n 0), (7, .aload_n 2), (8, .invokevirtual 264), (11, .aload_n 0), (12, .invokevirtual 197), (15, .aload_n 0), (16, .getfield 33), (19, .getfield 246)]),
  (30, [(22, .istore_n 3), (23, .aload_n 0), (24, .aload_n 2), (25, .invokevirtual 264), (28, .iload_n 3), (29, .ireturn)])]
theorem clo_X10_faultsWith : zk_okc cX10_faultsWith cl_X10_faultsWith = true := by decide +kernel
def rm_X10_faultsWith : Room := { frames := 7, cells := 1, slots := 6, locals := 150 }
def M_X10_faultsWith : zk_M := (zk_lkc cl_X10_faultsWith, zk_in [], tb_X10, (some (.int), 1, 6), (zk_lka [], fun _ _ => none, zk_in [], zk_in [], zk_lka []))
theorem MO_X10_faultsWith : zk_MO RX10 cX10_faultsWith (yX10_faultsWith.name = "<init>") M_X10_faultsWith := zk_MO_of clo_X10_faultsWith rfl tbo_X10
theorem TO_X10_faultsWith : zk_TO RX10 cX10_faultsWith rm_X10_faultsWith M_X10_faultsWith := ⟨fun pc h => absurd (zk_in_mem h) List.not_mem_nil, fun pc h => absurd (zk_in_mem h) List.not_mem_nil, fun pc tag h => absurd (zk_lka_mem h) List.not_mem_nil⟩
theorem THo_X10_faultsWith : ∀ pc X, M_X10_faultsWith.2.2.2.2.1 pc = some X → zk_TH RX10 cX10_faultsWith rm_X10_faultsWith pc X := fun pc X h => absurd (zk_lka_mem h) List.not_mem_nil
def cl_X10_lostWithout : List (Nat × List (Nat × Instr)) := [(20, [(0, .aload_n 0), (1, .iload_n 1), (2, .invokevirtual 167), (5, .astore_n 2), (6, .aload_n 2), (7, .getfield 171), (10, .ifCond .eq 5), (13, .iconst 0), (14, .ireturn), (15, .aload_n 0), (16, .invokevirtual 197), (19, .aload_n 0)]),
  (42, [(20, .getfield 19), (23, .aload_n 0), (24, .getfield 12), (27, .invokevirtual 268), (30, .istore_n 3), (31, .aload_n 0), (32, .aload_n 2), (33, .invokevirtual 264), (36, .aload_n 0), (37, .invokevirtual 197), (40, .aload_n 0), (41, .getfield 19)]),
  (63, [(44, .aload_n 0), (45, .getfield 12), (48, .invokevirtual 268), (51, .istore 4), (53, .aload_n 0), (54, .aload_n 2), (55, .invokevirtual 264), (58, .iload 4), (60, .iload_n 3), (61, .isub), (62, .ireturn)])]
theorem clo_X10_lostWithout : zk_okc cX10_lostWithout cl_X10_lostWithout = true := by decide +kernel
def rm_X10_lostWithout : Room := { frames := 7, cells := 1, slots := 6, locals := 150 }
def M_X10_lostWithout : zk_M := (zk_lkc cl_X10_lostWithout, zk_in [], tb_X10, (some (.int), 1, 6), (zk_lka [], fun _ _ => none, zk_in [], zk_in [], zk_lka []))
theorem MO_X10_lostWithout : zk_MO RX10 cX10_lostWithout (yX10_lostWithout.name = "<init>") M_X10_lostWithout := zk_MO_of clo_X10_lostWithout rfl tbo_X10
theorem TO_X10_lostWithout : zk_TO RX10 cX10_lostWithout rm_X10_lostWithout M_X10_lostWithout := ⟨fun pc h => absurd (zk_in_mem h) List.not_mem_nil, fun pc h => absurd (zk_in_mem h) List.not_mem_nil, fun pc tag h => absurd (zk_lka_mem h) List.not_mem_nil⟩
theorem THo_X10_lostWithout : ∀ pc X, M_X10_lostWithout.2.2.2.2.1 pc = some X → zk_TH RX10 cX10_lostWithout rm_X10_lostWithout pc X := fun pc X h => absurd (zk_lka_mem h) List.not_mem_nil
def cl_X10_timeWith : List (Nat × List (Nat × Instr)) := [(21, [(0, .aload_n 0), (1, .iload_n 1), (2, .invokevirtual 167), (5, .astore_n 3), (6, .iload_n 2), (7, .iconst 1), (8, .bipush 6), (10, .invokestatic 41), (13, .ifCond .ne 14), (16, .new 45), (19, .dup), (20, .ldc_w 272)]),
  (42, [(23, .invokespecial 49), (26, .athrow), (27, .aload_n 0), (28, .invokevirtual 197), (31, .aload_n 3), (32, .getfield 274), (35, .istore 4), (37, .aload_n 3), (38, .iload_n 2), (39, .iconst 2), (40, .imul), (41, .putfield 274)]),
  (68, [(44, .aload_n 0), (45, .getfield 26), (48, .aload_n 0), (49, .getfield 12), (52, .aload_n 0), (53, .getfield 19), (56, .invokevirtual 227), (59, .istore 5), (61, .aload_n 3), (62, .iload 4), (64, .putfield 274), (67, .iload 5)]),
  (70, [(69, .ireturn)])]
theorem clo_X10_timeWith : zk_okc cX10_timeWith cl_X10_timeWith = true := by decide +kernel
def rm_X10_timeWith : Room := { frames := 7, cells := 2, slots := 12, locals := 150 }
def M_X10_timeWith : zk_M := (zk_lkc cl_X10_timeWith, zk_in [], tb_X10, (some (.int), 2, 12), (zk_lka [(16, "java/lang/IllegalArgumentException")], fun _ _ => none, zk_in [], zk_in [], zk_lka []))
theorem MO_X10_timeWith : zk_MO RX10 cX10_timeWith (yX10_timeWith.name = "<init>") M_X10_timeWith := zk_MO_of clo_X10_timeWith rfl tbo_X10
theorem TO_X10_timeWith : zk_TO RX10 cX10_timeWith rm_X10_timeWith M_X10_timeWith := ⟨fun pc h => absurd (zk_in_mem h) List.not_mem_nil, fun pc h => absurd (zk_in_mem h) List.not_mem_nil, fun pc tag h => absurd (zk_lka_mem h) List.not_mem_nil⟩
theorem TH_X10_timeWith_16 : zk_TH RX10 cX10_timeWith rm_X10_timeWith 16 "java/lang/IllegalArgumentException" := ⟨45, 272, 49, "a door is 1 to 6 wide", ["java/lang/RuntimeException", "java/lang/Exception"], zk_wi 287 (by decide +kernel) rfl, zk_wi 10 (by decide +kernel) rfl, by decide +kernel, ats_0, by decide +kernel, by decide +kernel, by decide, by decide, by decide +kernel, by decide +kernel, Or.inr ⟨by decide +kernel, by decide +kernel, by decide +kernel⟩⟩
theorem THo_X10_timeWith : ∀ pc X, M_X10_timeWith.2.2.2.2.1 pc = some X → zk_TH RX10 cX10_timeWith rm_X10_timeWith pc X := fun pc X h => by
    have h2 := zk_lka_mem h
    simp only [List.mem_cons, List.not_mem_nil, or_false, Prod.mk.injEq] at h2
    rcases h2 with ⟨rfl, rfl⟩
    exact TH_X10_timeWith_16
def cl_X10_digest : List (Nat × List (Nat × Instr)) := [(20, [(0, .aload_n 0), (1, .invokevirtual 197), (4, .ldc2_w 280), (7, .lstore_n 1), (8, .lload_n 1), (9, .aload_n 0), (10, .invokevirtual 282), (13, .i2l), (14, .invokestatic 284), (17, .lstore_n 1), (18, .lload_n 1), (19, .aload_n 0)]),
  (40, [(20, .invokevirtual 288), (23, .i2l), (24, .invokestatic 284), (27, .lstore_n 1), (28, .lload_n 1), (29, .aload_n 0), (30, .invokevirtual 290), (33, .i2l), (34, .invokestatic 284), (37, .lstore_n 1), (38, .lload_n 1), (39, .aload_n 0)]),
  (64, [(40, .getfield 26), (43, .aload_n 0), (44, .getfield 12), (47, .aload_n 0), (48, .getfield 19), (51, .invokevirtual 227), (54, .i2l), (55, .invokestatic 284), (58, .lstore_n 1), (59, .aload_n 0), (60, .getfield 26), (63, .aload_n 0)]),
  (88, [(64, .getfield 12), (67, .aload_n 0), (68, .getfield 19), (71, .iconst 3), (72, .invokevirtual 235), (75, .lload_n 1), (76, .aload_n 0), (77, .getfield 26), (80, .invokevirtual 239), (83, .i2l), (84, .invokestatic 284), (87, .lstore_n 1)]),
  (106, [(88, .aload_n 0), (89, .lload_n 1), (90, .invokevirtual 292), (93, .lstore_n 1), (94, .aload_n 0), (95, .lload_n 1), (96, .invokevirtual 296), (99, .lstore_n 1), (100, .aload_n 0), (101, .lload_n 1), (102, .invokevirtual 299), (105, .lreturn)])]
theorem clo_X10_digest : zk_okc cX10_digest cl_X10_digest = true := by decide +kernel
def rm_X10_digest : Room := { frames := 6, cells := 0, slots := 0, locals := 150 }
def M_X10_digest : zk_M := (zk_lkc cl_X10_digest, zk_in [], tb_X10, (some (.long), 0, 0), (zk_lka [], fun _ _ => none, zk_in [], zk_in [], zk_lka []))
theorem MO_X10_digest : zk_MO RX10 cX10_digest (yX10_digest.name = "<init>") M_X10_digest := zk_MO_of clo_X10_digest rfl tbo_X10
theorem TO_X10_digest : zk_TO RX10 cX10_digest rm_X10_digest M_X10_digest := ⟨fun pc h => absurd (zk_in_mem h) List.not_mem_nil, fun pc h => absurd (zk_in_mem h) List.not_mem_nil, fun pc tag h => absurd (zk_lka_mem h) List.not_mem_nil⟩
theorem THo_X10_digest : ∀ pc X, M_X10_digest.2.2.2.2.1 pc = some X → zk_TH RX10 cX10_digest rm_X10_digest pc X := fun pc X h => absurd (zk_lka_mem h) List.not_mem_nil
def cl_X10_mixRooms : List (Nat × List (Nat × Instr)) := [(20, [(0, .lload_n 1), (1, .lstore_n 3), (2, .aload_n 0), (3, .getfield 26), (6, .aload_n 0), (7, .getfield 12), (10, .aload_n 0), (11, .getfield 19), (14, .iconst 2), (15, .invokevirtual 235), (18, .iconst 0), (19, .istore 5)]),
  (45, [(21, .iload 5), (23, .bipush 20), (25, .if_icmp .ge 150), (28, .aload_n 0), (29, .getfield 12), (32, .getfield 72), (35, .iload 5), (37, .aaload), (38, .ifnull 131), (41, .lload_n 3), (42, .iload 5), (44, .i2l)]),
  (66, [(45, .invokestatic 284), (48, .lstore_n 3), (49, .lload_n 3), (50, .aload_n 0), (51, .getfield 19), (54, .getfield 200), (57, .iload 5), (59, .iaload), (60, .iconst (-1)), (61, .if_icmp .ne 7), (64, .lconst 1), (65, .goto 4)]),
  (89, [(68, .lconst 0), (69, .invokestatic 284), (72, .lstore_n 3), (73, .lload_n 3), (74, .aload_n 0), (75, .getfield 19), (78, .getfield 203), (81, .iload 5), (83, .iaload), (84, .i2l), (85, .invokestatic 284), (88, .lstore_n 3)]),
  (110, [(89, .lload_n 3), (90, .aload_n 0), (91, .iload 5), (93, .invokevirtual 206), (96, .i2l), (97, .invokestatic 284), (100, .lstore_n 3), (101, .lload_n 3), (102, .aload_n 0), (103, .getfield 19), (106, .getfield 210), (109, .iload 5)]),
  (130, [(111, .iaload), (112, .i2l), (113, .invokestatic 284), (116, .lstore_n 3), (117, .lload_n 3), (118, .aload_n 0), (119, .getfield 19), (122, .getfield 213), (125, .iload 5), (127, .iaload), (128, .i2l), (129, .invokestatic 284)]),
  (151, [(132, .lstore_n 3), (133, .lload_n 3), (134, .aload_n 0), (135, .getfield 26), (138, .getfield 243), (141, .iload 5), (143, .iaload), (144, .i2l), (145, .invokestatic 284), (148, .lstore_n 3), (149, .lload_n 3), (150, .aload_n 0)]),
  (176, [(151, .aload_n 0), (152, .getfield 12), (155, .getfield 72), (158, .iload 5), (160, .aaload), (161, .invokevirtual 277), (164, .i2l), (165, .invokestatic 284), (168, .lstore_n 3), (169, .iinc 5 1), (172, .goto (-151)), (175, .lload_n 3)]),
  (177, [(176, .lreturn)])]
theorem clo_X10_mixRooms : zk_okc cX10_mixRooms cl_X10_mixRooms = true := by decide +kernel
def rm_X10_mixRooms : Room := { frames := 4, cells := 0, slots := 0, locals := 92 }
def M_X10_mixRooms : zk_M := (zk_lkc cl_X10_mixRooms, zk_in [21], tb_X10, (some (.long), 0, 0), (zk_lka [], fun _ _ => none, zk_in [], zk_in [], zk_lka []))
theorem MO_X10_mixRooms : zk_MO RX10 cX10_mixRooms (yX10_mixRooms.name = "<init>") M_X10_mixRooms := zk_MO_of clo_X10_mixRooms rfl tbo_X10
theorem TO_X10_mixRooms : zk_TO RX10 cX10_mixRooms rm_X10_mixRooms M_X10_mixRooms := ⟨fun pc h => absurd (zk_in_mem h) List.not_mem_nil, fun pc h => absurd (zk_in_mem h) List.not_mem_nil, fun pc tag h => absurd (zk_lka_mem h) List.not_mem_nil⟩
theorem THo_X10_mixRooms : ∀ pc X, M_X10_mixRooms.2.2.2.2.1 pc = some X → zk_TH RX10 cX10_mixRooms rm_X10_mixRooms pc X := fun pc X h => absurd (zk_lka_mem h) List.not_mem_nil
def cl_X10_mixExits : List (Nat × List (Nat × Instr)) := [(22, [(0, .lload_n 1), (1, .lstore_n 3), (2, .iconst 0), (3, .istore 5), (5, .iload 5), (7, .bipush 40), (9, .if_icmp .ge 78), (12, .aload_n 0), (13, .getfield 12), (16, .getfield 117), (19, .iload 5), (21, .aaload)]),
  (44, [(22, .ifnull 59), (25, .lload_n 3), (26, .iload 5), (28, .i2l), (29, .invokestatic 284), (32, .lstore_n 3), (33, .lload_n 3), (34, .aload_n 0), (35, .getfield 19), (38, .getfield 219), (41, .iload 5), (43, .iaload)]),
  (65, [(44, .i2l), (45, .invokestatic 284), (48, .lstore_n 3), (49, .lload_n 3), (50, .aload_n 0), (51, .getfield 19), (54, .getfield 216), (57, .iload 5), (59, .iaload), (60, .i2l), (61, .invokestatic 284), (64, .lstore_n 3)]),
  (88, [(65, .lload_n 3), (66, .aload_n 0), (67, .getfield 19), (70, .getfield 222), (73, .iload 5), (75, .iaload), (76, .i2l), (77, .invokestatic 284), (80, .lstore_n 3), (81, .iinc 5 1), (84, .goto (-79)), (87, .iconst 0)]),
  (112, [(88, .istore 5), (90, .iload 5), (92, .bipush 10), (94, .if_icmp .ge 49), (97, .aload_n 0), (98, .getfield 12), (101, .getfield 158), (104, .iload 5), (106, .aaload), (107, .ifnull 30), (110, .lload_n 3), (111, .iload 5)]),
  (133, [(113, .i2l), (114, .invokestatic 284), (117, .lstore_n 3), (118, .lload_n 3), (119, .aload_n 0), (120, .getfield 19), (123, .getfield 222), (126, .bipush 40), (128, .iload 5), (130, .iadd), (131, .iaload), (132, .i2l)]),
  (145, [(133, .invokestatic 284), (136, .lstore_n 3), (137, .iinc 5 1), (140, .goto (-50)), (143, .lload_n 3), (144, .lreturn)])]
theorem clo_X10_mixExits : zk_okc cX10_mixExits cl_X10_mixExits = true := by decide +kernel
def rm_X10_mixExits : Room := { frames := 1, cells := 0, slots := 0, locals := 23 }
def M_X10_mixExits : zk_M := (zk_lkc cl_X10_mixExits, zk_in [5, 90], tb_X10, (some (.long), 0, 0), (zk_lka [], fun _ _ => none, zk_in [], zk_in [], zk_lka []))
theorem MO_X10_mixExits : zk_MO RX10 cX10_mixExits (yX10_mixExits.name = "<init>") M_X10_mixExits := zk_MO_of clo_X10_mixExits rfl tbo_X10
theorem TO_X10_mixExits : zk_TO RX10 cX10_mixExits rm_X10_mixExits M_X10_mixExits := ⟨fun pc h => absurd (zk_in_mem h) List.not_mem_nil, fun pc h => absurd (zk_in_mem h) List.not_mem_nil, fun pc tag h => absurd (zk_lka_mem h) List.not_mem_nil⟩
theorem THo_X10_mixExits : ∀ pc X, M_X10_mixExits.2.2.2.2.1 pc = some X → zk_TH RX10 cX10_mixExits rm_X10_mixExits pc X := fun pc X h => absurd (zk_lka_mem h) List.not_mem_nil
def cl_X10_mixFaults : List (Nat × List (Nat × Instr)) := [(20, [(0, .lload_n 1), (1, .aload_n 0), (2, .getfield 33), (5, .getfield 246), (8, .i2l), (9, .invokestatic 284), (12, .lstore_n 3), (13, .iconst 0), (14, .istore 5), (16, .iload 5), (18, .aload_n 0), (19, .getfield 33)]),
  (45, [(22, .getfield 246), (25, .if_icmp .ge 57), (28, .lload_n 3), (29, .aload_n 0), (30, .getfield 33), (33, .getfield 252), (36, .iload 5), (38, .iaload), (39, .i2l), (40, .invokestatic 284), (43, .lstore_n 3), (44, .lload_n 3)]),
  (66, [(45, .aload_n 0), (46, .getfield 33), (49, .getfield 255), (52, .iload 5), (54, .iaload), (55, .i2l), (56, .invokestatic 284), (59, .lstore_n 3), (60, .lload_n 3), (61, .aload_n 0), (62, .getfield 33), (65, .getfield 258)]),
  (84, [(68, .iload 5), (70, .iaload), (71, .i2l), (72, .invokestatic 284), (75, .lstore_n 3), (76, .iinc 5 1), (79, .goto (-63)), (82, .lload_n 3), (83, .lreturn)])]
theorem clo_X10_mixFaults : zk_okc cX10_mixFaults cl_X10_mixFaults = true := by decide +kernel
def rm_X10_mixFaults : Room := { frames := 1, cells := 0, slots := 0, locals := 23 }
def M_X10_mixFaults : zk_M := (zk_lkc cl_X10_mixFaults, zk_in [16], tb_X10, (some (.long), 0, 0), (zk_lka [], fun _ _ => none, zk_in [], zk_in [], zk_lka []))
theorem MO_X10_mixFaults : zk_MO RX10 cX10_mixFaults (yX10_mixFaults.name = "<init>") M_X10_mixFaults := zk_MO_of clo_X10_mixFaults rfl tbo_X10
theorem TO_X10_mixFaults : zk_TO RX10 cX10_mixFaults rm_X10_mixFaults M_X10_mixFaults := ⟨fun pc h => absurd (zk_in_mem h) List.not_mem_nil, fun pc h => absurd (zk_in_mem h) List.not_mem_nil, fun pc tag h => absurd (zk_lka_mem h) List.not_mem_nil⟩
theorem THo_X10_mixFaults : ∀ pc X, M_X10_mixFaults.2.2.2.2.1 pc = some X → zk_TH RX10 cX10_mixFaults rm_X10_mixFaults pc X := fun pc X h => absurd (zk_lka_mem h) List.not_mem_nil
def cl_X10_mix : List (Nat × List (Nat × Instr)) := [(8, [(0, .lload_n 0), (1, .ldc2_w 302), (4, .lmul), (5, .lload_n 2), (6, .ladd), (7, .lreturn)])]
theorem clo_X10_mix : zk_okc cX10_mix cl_X10_mix = true := by decide +kernel
def rm_X10_mix : Room := { frames := 0, cells := 0, slots := 0, locals := 0 }
def M_X10_mix : zk_M := (zk_lkc cl_X10_mix, zk_in [], tb_X10, (some (.long), 0, 0), (zk_lka [], fun _ _ => none, zk_in [], zk_in [], zk_lka []))
theorem MO_X10_mix : zk_MO RX10 cX10_mix (yX10_mix.name = "<init>") M_X10_mix := zk_MO_of clo_X10_mix rfl tbo_X10
theorem TO_X10_mix : zk_TO RX10 cX10_mix rm_X10_mix M_X10_mix := ⟨fun pc h => absurd (zk_in_mem h) List.not_mem_nil, fun pc h => absurd (zk_in_mem h) List.not_mem_nil, fun pc tag h => absurd (zk_lka_mem h) List.not_mem_nil⟩
theorem THo_X10_mix : ∀ pc X, M_X10_mix.2.2.2.2.1 pc = some X → zk_TH RX10 cX10_mix rm_X10_mix pc X := fun pc X h => absurd (zk_lka_mem h) List.not_mem_nil
def cl_X10_isWithin : List (Nat × List (Nat × Instr)) := [(16, [(0, .iload_n 0), (1, .iload_n 1), (2, .if_icmp .lt 12), (5, .iload_n 0), (6, .iload_n 2), (7, .if_icmp .gt 7), (10, .iconst 1), (11, .goto 4), (14, .iconst 0), (15, .ireturn)])]
theorem clo_X10_isWithin : zk_okc cX10_isWithin cl_X10_isWithin = true := by decide +kernel
def rm_X10_isWithin : Room := { frames := 0, cells := 0, slots := 0, locals := 0 }
def M_X10_isWithin : zk_M := (zk_lkc cl_X10_isWithin, zk_in [], tb_X10, (some (.boolean), 0, 0), (zk_lka [], fun _ _ => none, zk_in [], zk_in [], zk_lka []))
theorem MO_X10_isWithin : zk_MO RX10 cX10_isWithin (yX10_isWithin.name = "<init>") M_X10_isWithin := zk_MO_of clo_X10_isWithin rfl tbo_X10
theorem TO_X10_isWithin : zk_TO RX10 cX10_isWithin rm_X10_isWithin M_X10_isWithin := ⟨fun pc h => absurd (zk_in_mem h) List.not_mem_nil, fun pc h => absurd (zk_in_mem h) List.not_mem_nil, fun pc tag h => absurd (zk_lka_mem h) List.not_mem_nil⟩
theorem THo_X10_isWithin : ∀ pc X, M_X10_isWithin.2.2.2.2.1 pc = some X → zk_TH RX10 cX10_isWithin rm_X10_isWithin pc X := fun pc X h => absurd (zk_lka_mem h) List.not_mem_nil
def cl_X10_canBeJoined : List (Nat × List (Nat × Instr)) := [(20, [(0, .aload_n 1), (1, .ifnonnull 16), (4, .aload_n 0), (5, .getfield 105), (8, .ifCond .ne 7), (11, .iconst 1), (12, .goto 4), (15, .iconst 0), (16, .ireturn), (17, .aload_n 1), (18, .aload_n 0), (19, .if_acmp .eq 18)]),
  (39, [(22, .aload_n 1), (23, .getfield 105), (26, .aload_n 0), (27, .getfield 105), (30, .if_icmp .ne 7), (33, .iconst 1), (34, .goto 4), (37, .iconst 0), (38, .ireturn)])]
theorem clo_X10_canBeJoined : zk_okc cX10_canBeJoined cl_X10_canBeJoined = true := by decide +kernel
def rm_X10_canBeJoined : Room := { frames := 0, cells := 0, slots := 0, locals := 0 }
def M_X10_canBeJoined : zk_M := (zk_lkc cl_X10_canBeJoined, zk_in [], tb_X10, (some (.boolean), 0, 0), (zk_lka [], fun _ _ => none, zk_in [], zk_in [], zk_lka []))
theorem MO_X10_canBeJoined : zk_MO RX10 cX10_canBeJoined (yX10_canBeJoined.name = "<init>") M_X10_canBeJoined := zk_MO_of clo_X10_canBeJoined rfl tbo_X10
theorem TO_X10_canBeJoined : zk_TO RX10 cX10_canBeJoined rm_X10_canBeJoined M_X10_canBeJoined := ⟨fun pc h => absurd (zk_in_mem h) List.not_mem_nil, fun pc h => absurd (zk_in_mem h) List.not_mem_nil, fun pc tag h => absurd (zk_lka_mem h) List.not_mem_nil⟩
theorem THo_X10_canBeJoined : ∀ pc X, M_X10_canBeJoined.2.2.2.2.1 pc = some X → zk_TH RX10 cX10_canBeJoined rm_X10_canBeJoined pc X := fun pc X h => absurd (zk_lka_mem h) List.not_mem_nil
def cl_X10_leavingOf : List (Nat × List (Nat × Instr)) := [(21, [(0, .aload_n 0), (1, .getfield 19), (4, .getfield 200), (7, .iload_n 1), (8, .iaload), (9, .istore_n 2), (10, .iload_n 2), (11, .bipush 40), (13, .if_icmp .ge 7), (16, .iload_n 2), (17, .goto 10), (20, .iload_n 2)]),
  (28, [(21, .bipush 40), (23, .isub), (24, .bipush 100), (26, .iadd), (27, .ireturn)])]
theorem clo_X10_leavingOf : zk_okc cX10_leavingOf cl_X10_leavingOf = true := by decide +kernel
def rm_X10_leavingOf : Room := { frames := 0, cells := 0, slots := 0, locals := 0 }
def M_X10_leavingOf : zk_M := (zk_lkc cl_X10_leavingOf, zk_in [], tb_X10, (some (.int), 0, 0), (zk_lka [], fun _ _ => none, zk_in [], zk_in [], zk_lka []))
theorem MO_X10_leavingOf : zk_MO RX10 cX10_leavingOf (yX10_leavingOf.name = "<init>") M_X10_leavingOf := zk_MO_of clo_X10_leavingOf rfl tbo_X10
theorem TO_X10_leavingOf : zk_TO RX10 cX10_leavingOf rm_X10_leavingOf M_X10_leavingOf := ⟨fun pc h => absurd (zk_in_mem h) List.not_mem_nil, fun pc h => absurd (zk_in_mem h) List.not_mem_nil, fun pc tag h => absurd (zk_lka_mem h) List.not_mem_nil⟩
theorem THo_X10_leavingOf : ∀ pc X, M_X10_leavingOf.2.2.2.2.1 pc = some X → zk_TH RX10 cX10_leavingOf rm_X10_leavingOf pc X := fun pc X h => absurd (zk_lka_mem h) List.not_mem_nil
def cl_X10_mostIn : List (Nat × List (Nat × Instr)) := [(20, [(0, .sipush 200), (3, .istore_n 2), (4, .aload_n 0), (5, .getfield 12), (8, .getfield 178), (11, .iconst 3), (12, .iaload), (13, .istore_n 3), (14, .iload_n 3), (15, .ifCond .le 19), (18, .iload_n 2), (19, .aload_n 1)]),
  (40, [(20, .getfield 304), (23, .aload_n 1), (24, .getfield 307), (27, .imul), (28, .iload_n 3), (29, .idiv), (30, .invokestatic 310), (33, .istore_n 2), (34, .aload_n 0), (35, .getfield 12), (38, .aload_n 1), (39, .invokevirtual 315)]),
  (65, [(42, .iconst 1), (43, .if_icmp .gt 20), (46, .iload_n 2), (47, .aload_n 0), (48, .getfield 12), (51, .getfield 178), (54, .bipush 6), (56, .iaload), (57, .invokestatic 310), (60, .goto 4), (63, .iload_n 2), (64, .ireturn)])]
theorem clo_X10_mostIn : zk_okc cX10_mostIn cl_X10_mostIn = true := by decide +kernel
def rm_X10_mostIn : Room := { frames := 2, cells := 0, slots := 0, locals := 45 }
def M_X10_mostIn : zk_M := (zk_lkc cl_X10_mostIn, zk_in [], tb_X10, (some (.int), 0, 0), (zk_lka [], fun _ _ => none, zk_in [], zk_in [], zk_lka [(30, 0), (57, 0)]))
theorem MO_X10_mostIn : zk_MO RX10 cX10_mostIn (yX10_mostIn.name = "<init>") M_X10_mostIn := zk_MO_of clo_X10_mostIn rfl tbo_X10
theorem TO_X10_mostIn : zk_TO RX10 cX10_mostIn rm_X10_mostIn M_X10_mostIn := ⟨fun pc h => absurd (zk_in_mem h) List.not_mem_nil, fun pc h => absurd (zk_in_mem h) List.not_mem_nil, fun pc tag h => by
    have h2 := zk_lka_mem h
    simp only [List.mem_cons, List.not_mem_nil, or_false, Prod.mk.injEq] at h2
    rcases h2 with ⟨rfl, rfl⟩ | ⟨rfl, rfl⟩
    · exact ⟨310, by decide +kernel, zk_wi 399 (by decide +kernel) rfl, by decide, by decide⟩
    · exact ⟨310, by decide +kernel, zk_wi 399 (by decide +kernel) rfl, by decide, by decide⟩⟩
theorem THo_X10_mostIn : ∀ pc X, M_X10_mostIn.2.2.2.2.1 pc = some X → zk_TH RX10 cX10_mostIn rm_X10_mostIn pc X := fun pc X h => absurd (zk_lka_mem h) List.not_mem_nil
def cl_X10_roomThere : List (Nat × List (Nat × Instr)) := [(23, [(0, .iload_n 1), (1, .iconst 0), (2, .bipush 19), (4, .invokestatic 41), (7, .ifCond .eq 15), (10, .aload_n 0), (11, .getfield 12), (14, .getfield 72), (17, .iload_n 1), (18, .aaload), (19, .goto 4), (22, .aconst_null)]),
  (41, [(23, .astore_n 2), (24, .aload_n 2), (25, .ifnonnull 14), (28, .new 182), (31, .dup), (32, .ldc_w 318), (35, .invokespecial 186), (38, .athrow), (39, .aload_n 2), (40, .areturn)])]
theorem clo_X10_roomThere : zk_okc cX10_roomThere cl_X10_roomThere = true := by decide +kernel
def rm_X10_roomThere : Room := { frames := 6, cells := 1, slots := 6, locals := 82 }
def M_X10_roomThere : zk_M := (zk_lkc cl_X10_roomThere, zk_in [], tb_X10, (some ((.object "ClerestoryPlan$Room")), 1, 6), (zk_lka [(28, "java/lang/IndexOutOfBoundsException")], fun _ _ => none, zk_in [], zk_in [], zk_lka []))
theorem MO_X10_roomThere : zk_MO RX10 cX10_roomThere (yX10_roomThere.name = "<init>") M_X10_roomThere := zk_MO_of clo_X10_roomThere rfl tbo_X10
theorem TO_X10_roomThere : zk_TO RX10 cX10_roomThere rm_X10_roomThere M_X10_roomThere := ⟨fun pc h => absurd (zk_in_mem h) List.not_mem_nil, fun pc h => absurd (zk_in_mem h) List.not_mem_nil, fun pc tag h => absurd (zk_lka_mem h) List.not_mem_nil⟩
theorem TH_X10_roomThere_28 : zk_TH RX10 cX10_roomThere rm_X10_roomThere 28 "java/lang/IndexOutOfBoundsException" := ⟨182, 318, 186, "no such room", ["java/lang/RuntimeException", "java/lang/Exception"], zk_wi 31 (by decide +kernel) rfl, zk_wi 14 (by decide +kernel) rfl, by decide +kernel, ats_2, by decide +kernel, by decide +kernel, by decide, by decide, by decide +kernel, by decide +kernel, Or.inr ⟨by decide +kernel, by decide +kernel, by decide +kernel⟩⟩
theorem THo_X10_roomThere : ∀ pc X, M_X10_roomThere.2.2.2.2.1 pc = some X → zk_TH RX10 cX10_roomThere rm_X10_roomThere pc X := fun pc X h => by
    have h2 := zk_lka_mem h
    simp only [List.mem_cons, List.not_mem_nil, or_false, Prod.mk.injEq] at h2
    rcases h2 with ⟨rfl, rfl⟩
    exact TH_X10_roomThere_28
def cl_X10_doorThere : List (Nat × List (Nat × Instr)) := [(23, [(0, .iload_n 1), (1, .iconst 0), (2, .bipush 39), (4, .invokestatic 41), (7, .ifCond .eq 15), (10, .aload_n 0), (11, .getfield 12), (14, .getfield 117), (17, .iload_n 1), (18, .aaload), (19, .goto 4), (22, .aconst_null)]),
  (41, [(23, .astore_n 2), (24, .aload_n 2), (25, .ifnonnull 14), (28, .new 182), (31, .dup), (32, .ldc_w 320), (35, .invokespecial 186), (38, .athrow), (39, .aload_n 2), (40, .areturn)])]
theorem clo_X10_doorThere : zk_okc cX10_doorThere cl_X10_doorThere = true := by decide +kernel
def rm_X10_doorThere : Room := { frames := 6, cells := 1, slots := 6, locals := 82 }
def M_X10_doorThere : zk_M := (zk_lkc cl_X10_doorThere, zk_in [], tb_X10, (some ((.object "ClerestoryPlan$Door")), 1, 6), (zk_lka [(28, "java/lang/IndexOutOfBoundsException")], fun _ _ => none, zk_in [], zk_in [], zk_lka []))
theorem MO_X10_doorThere : zk_MO RX10 cX10_doorThere (yX10_doorThere.name = "<init>") M_X10_doorThere := zk_MO_of clo_X10_doorThere rfl tbo_X10
theorem TO_X10_doorThere : zk_TO RX10 cX10_doorThere rm_X10_doorThere M_X10_doorThere := ⟨fun pc h => absurd (zk_in_mem h) List.not_mem_nil, fun pc h => absurd (zk_in_mem h) List.not_mem_nil, fun pc tag h => absurd (zk_lka_mem h) List.not_mem_nil⟩
theorem TH_X10_doorThere_28 : zk_TH RX10 cX10_doorThere rm_X10_doorThere 28 "java/lang/IndexOutOfBoundsException" := ⟨182, 320, 186, "no such door", ["java/lang/RuntimeException", "java/lang/Exception"], zk_wi 31 (by decide +kernel) rfl, zk_wi 14 (by decide +kernel) rfl, by decide +kernel, ats_2, by decide +kernel, by decide +kernel, by decide, by decide, by decide +kernel, by decide +kernel, Or.inr ⟨by decide +kernel, by decide +kernel, by decide +kernel⟩⟩
theorem THo_X10_doorThere : ∀ pc X, M_X10_doorThere.2.2.2.2.1 pc = some X → zk_TH RX10 cX10_doorThere rm_X10_doorThere pc X := fun pc X h => by
    have h2 := zk_lka_mem h
    simp only [List.mem_cons, List.not_mem_nil, or_false, Prod.mk.injEq] at h2
    rcases h2 with ⟨rfl, rfl⟩
    exact TH_X10_doorThere_28
def cl_X10_checkTick : List (Nat × List (Nat × Instr)) := [(23, [(0, .iload_n 0), (1, .iconst 0), (2, .sipush 999), (5, .invokestatic 41), (8, .ifCond .ne 14), (11, .new 45), (14, .dup), (15, .ldc_w 322), (18, .invokespecial 49), (21, .athrow), (22, .return_)])]
theorem clo_X10_checkTick : zk_okc cX10_checkTick cl_X10_checkTick = true := by decide +kernel
def rm_X10_checkTick : Room := { frames := 6, cells := 1, slots := 6, locals := 82 }
def M_X10_checkTick : zk_M := (zk_lkc cl_X10_checkTick, zk_in [], tb_X10, (none, 1, 6), (zk_lka [(11, "java/lang/IllegalArgumentException")], fun _ _ => none, zk_in [], zk_in [], zk_lka []))
theorem MO_X10_checkTick : zk_MO RX10 cX10_checkTick (yX10_checkTick.name = "<init>") M_X10_checkTick := zk_MO_of clo_X10_checkTick rfl tbo_X10
theorem TO_X10_checkTick : zk_TO RX10 cX10_checkTick rm_X10_checkTick M_X10_checkTick := ⟨fun pc h => absurd (zk_in_mem h) List.not_mem_nil, fun pc h => absurd (zk_in_mem h) List.not_mem_nil, fun pc tag h => absurd (zk_lka_mem h) List.not_mem_nil⟩
theorem TH_X10_checkTick_11 : zk_TH RX10 cX10_checkTick rm_X10_checkTick 11 "java/lang/IllegalArgumentException" := ⟨45, 322, 49, "a tick is 0 to 999", ["java/lang/RuntimeException", "java/lang/Exception"], zk_wi 287 (by decide +kernel) rfl, zk_wi 10 (by decide +kernel) rfl, by decide +kernel, ats_0, by decide +kernel, by decide +kernel, by decide, by decide, by decide +kernel, by decide +kernel, Or.inr ⟨by decide +kernel, by decide +kernel, by decide +kernel⟩⟩
theorem THo_X10_checkTick : ∀ pc X, M_X10_checkTick.2.2.2.2.1 pc = some X → zk_TH RX10 cX10_checkTick rm_X10_checkTick pc X := fun pc X h => by
    have h2 := zk_lka_mem h
    simp only [List.mem_cons, List.not_mem_nil, or_false, Prod.mk.injEq] at h2
    rcases h2 with ⟨rfl, rfl⟩
    exact TH_X10_checkTick_11
def cl_X10_checkFault : List (Nat × List (Nat × Instr)) := [(22, [(0, .iload_n 1), (1, .iconst 0), (2, .aload_n 0), (3, .getfield 33), (6, .getfield 246), (9, .iconst 1), (10, .isub), (11, .invokestatic 41), (14, .ifCond .ne 14), (17, .new 182), (20, .dup), (21, .ldc_w 324)]),
  (29, [(24, .invokespecial 186), (27, .athrow), (28, .return_)])]
theorem clo_X10_checkFault : zk_okc cX10_checkFault cl_X10_checkFault = true := by decide +kernel
def rm_X10_checkFault : Room := { frames := 6, cells := 1, slots := 6, locals := 82 }
def M_X10_checkFault : zk_M := (zk_lkc cl_X10_checkFault, zk_in [], tb_X10, (none, 1, 6), (zk_lka [(17, "java/lang/IndexOutOfBoundsException")], fun _ _ => none, zk_in [], zk_in [], zk_lka []))
theorem MO_X10_checkFault : zk_MO RX10 cX10_checkFault (yX10_checkFault.name = "<init>") M_X10_checkFault := zk_MO_of clo_X10_checkFault rfl tbo_X10
theorem TO_X10_checkFault : zk_TO RX10 cX10_checkFault rm_X10_checkFault M_X10_checkFault := ⟨fun pc h => absurd (zk_in_mem h) List.not_mem_nil, fun pc h => absurd (zk_in_mem h) List.not_mem_nil, fun pc tag h => absurd (zk_lka_mem h) List.not_mem_nil⟩
theorem TH_X10_checkFault_17 : zk_TH RX10 cX10_checkFault rm_X10_checkFault 17 "java/lang/IndexOutOfBoundsException" := ⟨182, 324, 186, "no such fault", ["java/lang/RuntimeException", "java/lang/Exception"], zk_wi 31 (by decide +kernel) rfl, zk_wi 14 (by decide +kernel) rfl, by decide +kernel, ats_2, by decide +kernel, by decide +kernel, by decide, by decide, by decide +kernel, by decide +kernel, Or.inr ⟨by decide +kernel, by decide +kernel, by decide +kernel⟩⟩
theorem THo_X10_checkFault : ∀ pc X, M_X10_checkFault.2.2.2.2.1 pc = some X → zk_TH RX10 cX10_checkFault rm_X10_checkFault pc X := fun pc X h => by
    have h2 := zk_lka_mem h
    simp only [List.mem_cons, List.not_mem_nil, or_false, Prod.mk.injEq] at h2
    rcases h2 with ⟨rfl, rfl⟩
    exact TH_X10_checkFault_17
def cl_X10_turn : List (Nat × List (Nat × Instr)) := [(22, [(0, .aload_n 1), (1, .aload_n 1), (2, .getfield 171), (5, .ifCond .ne 7), (8, .iconst 1), (9, .goto 4), (12, .iconst 0), (13, .putfield 171), (16, .aload_n 0), (17, .iconst 0), (18, .putfield 37), (21, .return_)])]
theorem clo_X10_turn : zk_okc cX10_turn cl_X10_turn = true := by decide +kernel
def rm_X10_turn : Room := { frames := 0, cells := 0, slots := 0, locals := 0 }
def M_X10_turn : zk_M := (zk_lkc cl_X10_turn, zk_in [], tb_X10, (none, 0, 0), (zk_lka [], fun _ _ => none, zk_in [], zk_in [], zk_lka []))
theorem MO_X10_turn : zk_MO RX10 cX10_turn (yX10_turn.name = "<init>") M_X10_turn := zk_MO_of clo_X10_turn rfl tbo_X10
theorem TO_X10_turn : zk_TO RX10 cX10_turn rm_X10_turn M_X10_turn := ⟨fun pc h => absurd (zk_in_mem h) List.not_mem_nil, fun pc h => absurd (zk_in_mem h) List.not_mem_nil, fun pc tag h => absurd (zk_lka_mem h) List.not_mem_nil⟩
theorem THo_X10_turn : ∀ pc X, M_X10_turn.2.2.2.2.1 pc = some X → zk_TH RX10 cX10_turn rm_X10_turn pc X := fun pc X h => absurd (zk_lka_mem h) List.not_mem_nil
def cl_X10_reckon : List (Nat × List (Nat × Instr)) := [(22, [(0, .aload_n 0), (1, .getfield 37), (4, .ifCond .eq 4), (7, .return_), (8, .aload_n 0), (9, .getfield 19), (12, .aload_n 0), (13, .getfield 12), (16, .invokevirtual 326), (19, .iconst 0), (20, .istore_n 1), (21, .iload_n 1)]),
  (47, [(22, .bipush 20), (24, .if_icmp .ge 21), (27, .aload_n 0), (28, .getfield 19), (31, .aload_n 0), (32, .getfield 12), (35, .iload_n 1), (36, .invokevirtual 330), (39, .iinc 1 1), (42, .goto (-21)), (45, .aload_n 0), (46, .getfield 19)]),
  (73, [(49, .aload_n 0), (50, .getfield 12), (53, .invokevirtual 334), (56, .aload_n 0), (57, .getfield 19), (60, .aload_n 0), (61, .getfield 12), (64, .invokevirtual 337), (67, .aload_n 0), (68, .getfield 33), (71, .iconst 0), (72, .putfield 246)]),
  (95, [(75, .iconst 0), (76, .istore_n 1), (77, .iload_n 1), (78, .aload_n 0), (79, .getfield 12), (82, .getfield 178), (85, .arraylength), (86, .if_icmp .ge 25), (89, .aload_n 0), (90, .getfield 33), (93, .aload_n 0), (94, .getfield 12)]),
  (117, [(97, .aload_n 0), (98, .getfield 19), (101, .iload_n 1), (102, .invokevirtual 340), (105, .iinc 1 1), (108, .goto (-31)), (111, .aload_n 0), (112, .iconst 1), (113, .putfield 37), (116, .return_)])]
theorem clo_X10_reckon : zk_okc cX10_reckon cl_X10_reckon = true := by decide +kernel
def rm_X10_reckon : Room := { frames := 5, cells := 0, slots := 0, locals := 129 }
def M_X10_reckon : zk_M := (zk_lkc cl_X10_reckon, zk_in [21, 77], tb_X10, (none, 0, 0), (zk_lka [], fun _ _ => none, zk_in [], zk_in [], zk_lka []))
theorem MO_X10_reckon : zk_MO RX10 cX10_reckon (yX10_reckon.name = "<init>") M_X10_reckon := zk_MO_of clo_X10_reckon rfl tbo_X10
theorem TO_X10_reckon : zk_TO RX10 cX10_reckon rm_X10_reckon M_X10_reckon := ⟨fun pc h => absurd (zk_in_mem h) List.not_mem_nil, fun pc h => absurd (zk_in_mem h) List.not_mem_nil, fun pc tag h => absurd (zk_lka_mem h) List.not_mem_nil⟩
theorem THo_X10_reckon : ∀ pc X, M_X10_reckon.2.2.2.2.1 pc = some X → zk_TH RX10 cX10_reckon rm_X10_reckon pc X := fun pc X h => absurd (zk_lka_mem h) List.not_mem_nil
def cl_X11_init : List (Nat × List (Nat × Instr)) := [(25, [(0, .aload_n 0), (1, .invokespecial 1), (4, .aload_n 0), (5, .new 7), (8, .dup), (9, .invokespecial 9), (12, .putfield 10), (15, .aload_n 0), (16, .bipush 20), (18, .anewarray 16), (21, .putfield 18), (24, .aload_n 0)]),
  (52, [(25, .bipush 40), (27, .anewarray 16), (30, .putfield 22), (33, .aload_n 0), (34, .bipush 40), (36, .anewarray 16), (39, .putfield 25), (42, .aload_n 0), (43, .bipush 10), (45, .anewarray 16), (48, .putfield 28), (51, .aload_n 0)]),
  (67, [(52, .bipush 10), (54, .newarray .int), (56, .dup), (57, .iconst 0), (58, .iconst 0), (59, .iastore), (60, .dup), (61, .iconst 1), (62, .bipush 120), (64, .iastore), (65, .dup), (66, .iconst 2)]),
  (81, [(67, .bipush 8), (69, .iastore), (70, .dup), (71, .iconst 3), (72, .iconst 4), (73, .iastore), (74, .dup), (75, .iconst 4), (76, .bipush 10), (78, .iastore), (79, .dup), (80, .iconst 5)]),
  (97, [(81, .bipush 12), (83, .iastore), (84, .dup), (85, .bipush 6), (87, .bipush 50), (89, .iastore), (90, .dup), (91, .bipush 7), (93, .iconst 3), (94, .iastore), (95, .dup), (96, .bipush 8)]),
  (116, [(98, .bipush 60), (100, .iastore), (101, .dup), (102, .bipush 9), (104, .iconst 0), (105, .iastore), (106, .putfield 31), (109, .aload_n 0), (110, .aload_n 1), (111, .putfield 34), (114, .aload_n 0), (115, .iload_n 2)]),
  (120, [(116, .putfield 37), (119, .return_)])]
theorem clo_X11_init : zk_okc cX11_init cl_X11_init = true := by decide +kernel
def rm_X11_init : Room := { frames := 3, cells := 27, slots := 1167, locals := 62 }
def M_X11_init : zk_M := (zk_lkc cl_X11_init, zk_in [], tbi_X11, (none, 27, 1167), (zk_lka [], fun _ _ => none, zk_in [1], zk_in [], zk_lka []))
theorem MO_X11_init : zk_MO RX11 cX11_init (yX11_init.name = "<init>") M_X11_init := zk_MO_of clo_X11_init rfl (tbio_X11 rfl)
theorem TO_X11_init : zk_TO RX11 cX11_init rm_X11_init M_X11_init := ⟨fun pc h => by
    have h2 := zk_in_mem h
    simp only [List.mem_cons, List.not_mem_nil, or_false] at h2
    subst h2
    exact ⟨1, by decide +kernel, zk_wi 414 (by decide +kernel) rfl, by decide, by decide⟩, fun pc h => absurd (zk_in_mem h) List.not_mem_nil, fun pc tag h => absurd (zk_lka_mem h) List.not_mem_nil⟩
theorem THo_X11_init : ∀ pc X, M_X11_init.2.2.2.2.1 pc = some X → zk_TH RX11 cX11_init rm_X11_init pc X := fun pc X h => absurd (zk_lka_mem h) List.not_mem_nil
def cl_X11_draw : List (Nat × List (Nat × Instr)) := [(22, [(0, .aload_n 0), (1, .getfield 34), (4, .aload_n 0), (5, .getfield 37), (8, .bipush 24), (10, .irem), (11, .invokestatic 41), (14, .aload_n 0), (15, .getfield 37), (18, .bipush 24), (20, .idiv), (21, .bipush 8)]),
  (40, [(23, .irem), (24, .ishr), (25, .bipush 101), (27, .aload_n 0), (28, .getfield 37), (31, .imul), (32, .iadd), (33, .iload_n 1), (34, .invokestatic 47), (37, .istore_n 2), (38, .aload_n 0), (39, .dup)]),
  (50, [(40, .getfield 37), (43, .iconst 1), (44, .iadd), (45, .putfield 37), (48, .iload_n 2), (49, .ireturn)])]
theorem clo_X11_draw : zk_okc cX11_draw cl_X11_draw = true := by decide +kernel
def rm_X11_draw : Room := { frames := 1, cells := 0, slots := 0, locals := 21 }
def M_X11_draw : zk_M := (zk_lkc cl_X11_draw, zk_in [], tb_X11, (some (.int), 0, 0), (zk_lka [], fun _ _ => none, zk_in [], zk_in [], zk_lka []))
theorem MO_X11_draw : zk_MO RX11 cX11_draw (yX11_draw.name = "<init>") M_X11_draw := zk_MO_of clo_X11_draw rfl tbo_X11
theorem TO_X11_draw : zk_TO RX11 cX11_draw rm_X11_draw M_X11_draw := ⟨fun pc h => absurd (zk_in_mem h) List.not_mem_nil, fun pc h => absurd (zk_in_mem h) List.not_mem_nil, fun pc tag h => absurd (zk_lka_mem h) List.not_mem_nil⟩
theorem THo_X11_draw : ∀ pc X, M_X11_draw.2.2.2.2.1 pc = some X → zk_TH RX11 cX11_draw rm_X11_draw pc X := fun pc X h => absurd (zk_lka_mem h) List.not_mem_nil
def cl_X11_isThere : List (Nat × List (Nat × Instr)) := [(20, [(0, .iload_n 1), (1, .ifCond .lt 27), (4, .iload_n 1), (5, .aload_n 0), (6, .getfield 51), (9, .if_icmp .ge 19), (12, .aload_n 0), (13, .getfield 18), (16, .iload_n 1), (17, .aaload), (18, .iconst 0), (19, .iaload)]),
  (30, [(20, .iconst 3), (21, .if_icmp .ge 7), (24, .iconst 1), (25, .goto 4), (28, .iconst 0), (29, .ireturn)])]
theorem clo_X11_isThere : zk_okc cX11_isThere cl_X11_isThere = true := by decide +kernel
def rm_X11_isThere : Room := { frames := 0, cells := 0, slots := 0, locals := 0 }
def M_X11_isThere : zk_M := (zk_lkc cl_X11_isThere, zk_in [], tb_X11, (some (.boolean), 0, 0), (zk_lka [], fun _ _ => none, zk_in [], zk_in [], zk_lka []))
theorem MO_X11_isThere : zk_MO RX11 cX11_isThere (yX11_isThere.name = "<init>") M_X11_isThere := zk_MO_of clo_X11_isThere rfl tbo_X11
theorem TO_X11_isThere : zk_TO RX11 cX11_isThere rm_X11_isThere M_X11_isThere := ⟨fun pc h => absurd (zk_in_mem h) List.not_mem_nil, fun pc h => absurd (zk_in_mem h) List.not_mem_nil, fun pc tag h => absurd (zk_lka_mem h) List.not_mem_nil⟩
theorem THo_X11_isThere : ∀ pc X, M_X11_isThere.2.2.2.2.1 pc = some X → zk_TH RX11 cX11_isThere rm_X11_isThere pc X := fun pc X h => absurd (zk_lka_mem h) List.not_mem_nil
def cl_X11_any : List (Nat × List (Nat × Instr)) := [(20, [(0, .aload_n 0), (1, .aload_n 0), (2, .getfield 51), (5, .invokevirtual 54), (8, .istore_n 1), (9, .aload_n 0), (10, .iload_n 1), (11, .invokevirtual 58), (14, .ifCond .ne 15), (17, .iload_n 1), (18, .iconst 1), (19, .iadd)]),
  (31, [(20, .aload_n 0), (21, .getfield 51), (24, .irem), (25, .istore_n 1), (26, .goto (-17)), (29, .iload_n 1), (30, .ireturn)])]
theorem clo_X11_any : zk_okc cX11_any cl_X11_any = true := by decide +kernel
def rm_X11_any : Room := { frames := 2, cells := 0, slots := 0, locals := 43 }
def M_X11_any : zk_M := (zk_lkc cl_X11_any, zk_in [9], tb_X11, (some (.int), 0, 0), (zk_lka [], fun _ _ => none, zk_in [], zk_in [], zk_lka []))
theorem MO_X11_any : zk_MO RX11 cX11_any (yX11_any.name = "<init>") M_X11_any := zk_MO_of clo_X11_any rfl tbo_X11
theorem TO_X11_any : zk_TO RX11 cX11_any rm_X11_any M_X11_any := ⟨fun pc h => absurd (zk_in_mem h) List.not_mem_nil, fun pc h => absurd (zk_in_mem h) List.not_mem_nil, fun pc tag h => absurd (zk_lka_mem h) List.not_mem_nil⟩
theorem THo_X11_any : ∀ pc X, M_X11_any.2.2.2.2.1 pc = some X → zk_TH RX11 cX11_any rm_X11_any pc X := fun pc X h => absurd (zk_lka_mem h) List.not_mem_nil
def cl_X11_area : List (Nat × List (Nat × Instr)) := [(12, [(0, .iconst 0), (1, .istore_n 2), (2, .aload_n 0), (3, .iconst 1), (4, .iaload), (5, .istore_n 3), (6, .iload_n 3), (7, .aload_n 0), (8, .iconst 1), (9, .iaload), (10, .aload_n 0), (11, .iconst 3)]),
  (28, [(12, .iaload), (13, .iadd), (14, .if_icmp .ge 78), (17, .aload_n 0), (18, .iconst 2), (19, .iaload), (20, .istore 4), (22, .iload 4), (24, .aload_n 0), (25, .iconst 2), (26, .iaload), (27, .aload_n 0)]),
  (44, [(28, .iconst 4), (29, .iaload), (30, .iadd), (31, .if_icmp .ge 55), (34, .iload_n 2), (35, .iload_n 3), (36, .aload_n 1), (37, .iconst 1), (38, .iaload), (39, .if_icmp .lt 38), (42, .iload_n 3), (43, .aload_n 1)]),
  (59, [(44, .iconst 1), (45, .iaload), (46, .aload_n 1), (47, .iconst 3), (48, .iaload), (49, .iadd), (50, .if_icmp .ge 27), (53, .iload 4), (55, .aload_n 1), (56, .iconst 2), (57, .iaload), (58, .if_icmp .lt 19)]),
  (78, [(61, .iload 4), (63, .aload_n 1), (64, .iconst 2), (65, .iaload), (66, .aload_n 1), (67, .iconst 4), (68, .iaload), (69, .iadd), (70, .if_icmp .ge 7), (73, .iconst 1), (74, .goto 4), (77, .iconst 0)]),
  (94, [(78, .iadd), (79, .istore_n 2), (80, .iinc 4 1), (83, .goto (-61)), (86, .iinc 3 1), (89, .goto (-83)), (92, .iload_n 2), (93, .ireturn)])]
theorem clo_X11_area : zk_okc cX11_area cl_X11_area = true := by decide +kernel
def rm_X11_area : Room := { frames := 0, cells := 0, slots := 0, locals := 0 }
def M_X11_area : zk_M := (zk_lkc cl_X11_area, zk_in [6, 22], tb_X11, (some (.int), 0, 0), (zk_lka [], fun _ _ => none, zk_in [], zk_in [], zk_lka []))
theorem MO_X11_area : zk_MO RX11 cX11_area (yX11_area.name = "<init>") M_X11_area := zk_MO_of clo_X11_area rfl tbo_X11
theorem TO_X11_area : zk_TO RX11 cX11_area rm_X11_area M_X11_area := ⟨fun pc h => absurd (zk_in_mem h) List.not_mem_nil, fun pc h => absurd (zk_in_mem h) List.not_mem_nil, fun pc tag h => absurd (zk_lka_mem h) List.not_mem_nil⟩
theorem THo_X11_area : ∀ pc X, M_X11_area.2.2.2.2.1 pc = some X → zk_TH RX11 cX11_area rm_X11_area pc X := fun pc X h => absurd (zk_lka_mem h) List.not_mem_nil
def cl_X11_addRoom : List (Nat × List (Nat × Instr)) := [(14, [(0, .bipush 7), (2, .newarray .int), (4, .dup), (5, .iconst 0), (6, .iload_n 1), (7, .iastore), (8, .dup), (9, .iconst 1), (10, .iload_n 2), (11, .iastore), (12, .dup), (13, .iconst 2)]),
  (28, [(14, .iload_n 3), (15, .iastore), (16, .dup), (17, .iconst 3), (18, .iload 4), (20, .iastore), (21, .dup), (22, .iconst 4), (23, .iload 5), (25, .iastore), (26, .dup), (27, .iconst 5)]),
  (48, [(28, .iload 6), (30, .iastore), (31, .dup), (32, .bipush 6), (34, .iconst 0), (35, .iastore), (36, .astore 7), (38, .aload_n 0), (39, .getfield 51), (42, .bipush 20), (44, .if_icmp .ge 7), (47, .iconst 1)]),
  (70, [(48, .goto 4), (51, .iconst 0), (52, .istore 8), (54, .iconst 0), (55, .istore 9), (57, .iload 9), (59, .aload_n 0), (60, .getfield 51), (63, .if_icmp .ge 47), (66, .iload 8), (68, .aload_n 0), (69, .getfield 18)]),
  (91, [(72, .iload 9), (74, .aaload), (75, .iconst 0), (76, .iaload), (77, .iload_n 1), (78, .if_icmp .ne 18), (81, .aload_n 0), (82, .getfield 18), (85, .iload 9), (87, .aaload), (88, .aload 7), (90, .invokestatic 62)]),
  (116, [(93, .ifCond .ne 7), (96, .iconst 1), (97, .goto 4), (100, .iconst 0), (101, .iand), (102, .istore 8), (104, .iinc 9 1), (107, .goto (-50)), (110, .aload_n 0), (111, .getfield 10), (114, .iload_n 1), (115, .iload_n 2)]),
  (139, [(116, .iload_n 3), (117, .iload 4), (119, .iload 5), (121, .iload 6), (123, .invokevirtual 66), (126, .istore 9), (128, .aload_n 0), (129, .getfield 18), (132, .aload_n 0), (133, .getfield 51), (136, .aload 7), (138, .aastore)]),
  (161, [(139, .iload 8), (141, .ifCond .eq 23), (144, .iload 9), (146, .aload_n 0), (147, .dup), (148, .getfield 51), (151, .dup_x1), (152, .iconst 1), (153, .iadd), (154, .putfield 51), (157, .if_icmp .ne 7), (160, .iconst 1)]),
  (179, [(161, .goto 4), (164, .iconst 0), (165, .ireturn), (166, .astore 9), (168, .iload 8), (170, .ifCond .ne 7), (173, .iconst 1), (174, .goto 4), (177, .iconst 0), (178, .ireturn)])]
theorem clo_X11_addRoom : zk_okc cX11_addRoom cl_X11_addRoom = true := by decide +kernel
def rm_X11_addRoom : Room := { frames := 7, cells := 5, slots := 33, locals := 110 }
def M_X11_addRoom : zk_M := (zk_lkc cl_X11_addRoom, zk_in [57], tb_X11, (some (.boolean), 5, 33), (zk_lka [], fun pc X => match Nat.beq 123 pc with
  | true => if X = "java/lang/IllegalStateException" then some 166 else none
  | false => none, zk_in [], zk_in [], zk_lka []))
theorem MO_X11_addRoom : zk_MO RX11 cX11_addRoom (yX11_addRoom.name = "<init>") M_X11_addRoom := zk_MO_of clo_X11_addRoom rfl tbo_X11
theorem TO_X11_addRoom : zk_TO RX11 cX11_addRoom rm_X11_addRoom M_X11_addRoom := ⟨fun pc h => absurd (zk_in_mem h) List.not_mem_nil, fun pc h => absurd (zk_in_mem h) List.not_mem_nil, fun pc tag h => absurd (zk_lka_mem h) List.not_mem_nil⟩
theorem THo_X11_addRoom : ∀ pc X, M_X11_addRoom.2.2.2.2.1 pc = some X → zk_TH RX11 cX11_addRoom rm_X11_addRoom pc X := fun pc X h => absurd (zk_lka_mem h) List.not_mem_nil
def cl_X11_layOut : List (Nat × List (Nat × Instr)) := [(17, [(0, .iconst 2), (1, .aload_n 0), (2, .iconst 2), (3, .invokevirtual 54), (6, .iadd), (7, .istore_n 1), (8, .iconst 4), (9, .aload_n 0), (10, .bipush 6), (12, .invokevirtual 54), (15, .iadd), (16, .istore_n 2)]),
  (33, [(17, .iconst 0), (18, .istore_n 3), (19, .iload_n 3), (20, .iconst 2), (21, .if_icmp .ge 82), (24, .iconst 0), (25, .istore 4), (27, .iload 4), (29, .iload_n 1), (30, .iconst 2), (31, .imul), (32, .if_icmp .ge 65)]),
  (55, [(35, .aload_n 0), (36, .bipush 8), (38, .invokevirtual 54), (41, .ifCond .ne 6), (44, .goto 47), (47, .aload_n 0), (48, .iload_n 3), (49, .iload_n 2), (50, .iload 4), (52, .iload_n 1), (53, .irem), (54, .imul)]),
  (73, [(55, .iload_n 2), (56, .iload 4), (58, .iload_n 1), (59, .idiv), (60, .imul), (61, .aload_n 0), (62, .bipush 6), (64, .invokevirtual 54), (67, .ifCond .ne 9), (70, .iload_n 2), (71, .iconst 1), (72, .iadd)]),
  (95, [(73, .goto 4), (76, .iload_n 2), (77, .iload_n 2), (78, .aload_n 0), (79, .iconst 4), (80, .invokevirtual 54), (83, .invokevirtual 72), (86, .ifCond .ne 5), (89, .iconst 0), (90, .ireturn), (91, .iinc 4 1), (94, .goto (-67))]),
  (117, [(97, .iinc 3 1), (100, .goto (-81)), (103, .aload_n 0), (104, .getfield 51), (107, .ifCond .ne 18), (110, .aload_n 0), (111, .iconst 0), (112, .iconst 0), (113, .iconst 0), (114, .iload_n 2), (115, .iload_n 2), (116, .iconst 1)]),
  (137, [(117, .invokevirtual 72), (120, .ifCond .ne 5), (123, .iconst 0), (124, .ireturn), (125, .iconst 0), (126, .istore_n 3), (127, .iload_n 3), (128, .aload_n 0), (129, .getfield 51), (132, .if_icmp .ge 42), (135, .aload_n 0), (136, .iload_n 3)]),
  (161, [(137, .aload_n 0), (138, .iconst 3), (139, .invokevirtual 54), (142, .ifCond .ne 12), (145, .aload_n 0), (146, .bipush 90), (148, .invokevirtual 54), (151, .goto 9), (154, .aload_n 0), (155, .bipush 12), (157, .invokevirtual 54), (160, .invokevirtual 75)]),
  (176, [(163, .ifCond .ne 5), (166, .iconst 0), (167, .ireturn), (168, .iinc 3 1), (171, .goto (-44)), (174, .iconst 1), (175, .ireturn)])]
theorem clo_X11_layOut : zk_okc cX11_layOut cl_X11_layOut = true := by decide +kernel
def rm_X11_layOut : Room := { frames := 9, cells := 156, slots := 1014, locals := 151 }
def M_X11_layOut : zk_M := (zk_lkc cl_X11_layOut, zk_in [19, 27, 127], tb_X11, (some (.boolean), 156, 1014), (zk_lka [], fun _ _ => none, zk_in [], zk_in [], zk_lka []))
theorem MO_X11_layOut : zk_MO RX11 cX11_layOut (yX11_layOut.name = "<init>") M_X11_layOut := zk_MO_of clo_X11_layOut rfl tbo_X11
theorem TO_X11_layOut : zk_TO RX11 cX11_layOut rm_X11_layOut M_X11_layOut := ⟨fun pc h => absurd (zk_in_mem h) List.not_mem_nil, fun pc h => absurd (zk_in_mem h) List.not_mem_nil, fun pc tag h => absurd (zk_lka_mem h) List.not_mem_nil⟩
theorem THo_X11_layOut : ∀ pc X, M_X11_layOut.2.2.2.2.1 pc = some X → zk_TH RX11 cX11_layOut rm_X11_layOut pc X := fun pc X h => absurd (zk_lka_mem h) List.not_mem_nil
def cl_X11_setPeople : List (Nat × List (Nat × Instr)) := [(17, [(0, .aload_n 0), (1, .getfield 18), (4, .iload_n 1), (5, .aaload), (6, .bipush 6), (8, .iaload), (9, .istore_n 3), (10, .aload_n 0), (11, .getfield 18), (14, .iload_n 1), (15, .aaload), (16, .bipush 6)]),
  (38, [(18, .iload_n 2), (19, .iastore), (20, .aload_n 0), (21, .getfield 10), (24, .iload_n 1), (25, .iload_n 2), (26, .invokevirtual 79), (29, .iload_n 3), (30, .if_icmp .ne 7), (33, .iconst 1), (34, .goto 4), (37, .iconst 0)]),
  (39, [(38, .ireturn)])]
theorem clo_X11_setPeople : zk_okc cX11_setPeople cl_X11_setPeople = true := by decide +kernel
def rm_X11_setPeople : Room := { frames := 8, cells := 2, slots := 12, locals := 128 }
def M_X11_setPeople : zk_M := (zk_lkc cl_X11_setPeople, zk_in [], tb_X11, (some (.boolean), 2, 12), (zk_lka [], fun _ _ => none, zk_in [], zk_in [], zk_lka []))
theorem MO_X11_setPeople : zk_MO RX11 cX11_setPeople (yX11_setPeople.name = "<init>") M_X11_setPeople := zk_MO_of clo_X11_setPeople rfl tbo_X11
theorem TO_X11_setPeople : zk_TO RX11 cX11_setPeople rm_X11_setPeople M_X11_setPeople := ⟨fun pc h => absurd (zk_in_mem h) List.not_mem_nil, fun pc h => absurd (zk_in_mem h) List.not_mem_nil, fun pc tag h => absurd (zk_lka_mem h) List.not_mem_nil⟩
theorem THo_X11_setPeople : ∀ pc X, M_X11_setPeople.2.2.2.2.1 pc = some X → zk_TH RX11 cX11_setPeople rm_X11_setPeople pc X := fun pc X h => absurd (zk_lka_mem h) List.not_mem_nil
def cl_X11_onSides : List (Nat × List (Nat × Instr)) := [(22, [(0, .iconst 0), (1, .istore 5), (3, .iconst 0), (4, .istore 6), (6, .iload 6), (8, .iload 4), (10, .if_icmp .ge 141), (13, .iload_n 3), (14, .ifCond .eq 7), (17, .iload_n 1), (18, .goto 4), (21, .iload_n 2)]),
  (42, [(22, .istore 7), (24, .iload_n 3), (25, .ifCond .eq 10), (28, .iload_n 2), (29, .iload 6), (31, .iadd), (32, .goto 7), (35, .iload_n 1), (36, .iload 6), (38, .iadd), (39, .istore 8), (41, .iload_n 3)]),
  (60, [(42, .ifCond .eq 9), (45, .aload_n 0), (46, .iconst 1), (47, .iaload), (48, .goto 6), (51, .aload_n 0), (52, .iconst 2), (53, .iaload), (54, .istore 9), (56, .iload 9), (58, .iload_n 3), (59, .ifCond .eq 9)]),
  (79, [(62, .aload_n 0), (63, .iconst 3), (64, .iaload), (65, .goto 6), (68, .aload_n 0), (69, .iconst 4), (70, .iaload), (71, .iadd), (72, .istore 10), (74, .iload_n 3), (75, .ifCond .eq 9), (78, .aload_n 0)]),
  (97, [(79, .iconst 2), (80, .iaload), (81, .goto 6), (84, .aload_n 0), (85, .iconst 1), (86, .iaload), (87, .istore 11), (89, .iload 11), (91, .iload_n 3), (92, .ifCond .eq 9), (95, .aload_n 0), (96, .iconst 4)]),
  (117, [(97, .iaload), (98, .goto 6), (101, .aload_n 0), (102, .iconst 3), (103, .iaload), (104, .iadd), (105, .istore 12), (107, .iload 5), (109, .iload 7), (111, .iload 9), (113, .if_icmp .eq 10), (116, .iload 7)]),
  (143, [(118, .iload 10), (120, .if_icmp .ne 21), (123, .iload 8), (125, .iload 11), (127, .if_icmp .lt 14), (130, .iload 8), (132, .iload 12), (134, .if_icmp .ge 7), (137, .iconst 1), (138, .goto 4), (141, .iconst 0), (142, .iadd)]),
  (154, [(143, .istore 5), (145, .iinc 6 1), (148, .goto (-142)), (151, .iload 5), (153, .ireturn)])]
theorem clo_X11_onSides : zk_okc cX11_onSides cl_X11_onSides = true := by decide +kernel
def rm_X11_onSides : Room := { frames := 0, cells := 0, slots := 0, locals := 0 }
def M_X11_onSides : zk_M := (zk_lkc cl_X11_onSides, zk_in [6], tb_X11, (some (.int), 0, 0), (zk_lka [], fun _ _ => none, zk_in [], zk_in [], zk_lka []))
theorem MO_X11_onSides : zk_MO RX11 cX11_onSides (yX11_onSides.name = "<init>") M_X11_onSides := zk_MO_of clo_X11_onSides rfl tbo_X11
theorem TO_X11_onSides : zk_TO RX11 cX11_onSides rm_X11_onSides M_X11_onSides := ⟨fun pc h => absurd (zk_in_mem h) List.not_mem_nil, fun pc h => absurd (zk_in_mem h) List.not_mem_nil, fun pc tag h => absurd (zk_lka_mem h) List.not_mem_nil⟩
theorem THo_X11_onSides : ∀ pc X, M_X11_onSides.2.2.2.2.1 pc = some X → zk_TH RX11 cX11_onSides rm_X11_onSides pc X := fun pc X h => absurd (zk_lka_mem h) List.not_mem_nil
def cl_X11_meet : List (Nat × List (Nat × Instr)) := [(20, [(0, .iload_n 2), (1, .iload 6), (3, .if_icmp .eq 5), (6, .iconst 0), (7, .ireturn), (8, .iload_n 2), (9, .ifCond .eq 7), (12, .iload_n 1), (13, .goto 4), (16, .iload_n 0), (17, .istore 8), (19, .iload_n 2)]),
  (46, [(20, .ifCond .eq 8), (23, .iload 5), (25, .goto 5), (28, .iload 4), (30, .istore 9), (32, .iload_n 2), (33, .ifCond .eq 12), (36, .iload_n 0), (37, .iload 4), (39, .if_icmp .ne 35), (42, .goto 9), (45, .iload_n 1)]),
  (68, [(46, .iload 5), (48, .if_icmp .ne 26), (51, .iload 8), (53, .iload 9), (55, .iload 7), (57, .iadd), (58, .if_icmp .ge 16), (61, .iload 9), (63, .iload 8), (65, .iload_n 3), (66, .iadd), (67, .if_icmp .ge 7)]),
  (76, [(70, .iconst 1), (71, .goto 4), (74, .iconst 0), (75, .ireturn)])]
theorem clo_X11_meet : zk_okc cX11_meet cl_X11_meet = true := by decide +kernel
def rm_X11_meet : Room := { frames := 0, cells := 0, slots := 0, locals := 0 }
def M_X11_meet : zk_M := (zk_lkc cl_X11_meet, zk_in [], tb_X11, (some (.boolean), 0, 0), (zk_lka [], fun _ _ => none, zk_in [], zk_in [], zk_lka []))
theorem MO_X11_meet : zk_MO RX11 cX11_meet (yX11_meet.name = "<init>") M_X11_meet := zk_MO_of clo_X11_meet rfl tbo_X11
theorem TO_X11_meet : zk_TO RX11 cX11_meet rm_X11_meet M_X11_meet := ⟨fun pc h => absurd (zk_in_mem h) List.not_mem_nil, fun pc h => absurd (zk_in_mem h) List.not_mem_nil, fun pc tag h => absurd (zk_lka_mem h) List.not_mem_nil⟩
theorem THo_X11_meet : ∀ pc X, M_X11_meet.2.2.2.2.1 pc = some X → zk_TH RX11 cX11_meet rm_X11_meet pc X := fun pc X h => absurd (zk_lka_mem h) List.not_mem_nil
def cl_X11_canBe : List (Nat × List (Nat × Instr)) := [(22, [(0, .aload_n 0), (1, .getfield 18), (4, .iload_n 1), (5, .aaload), (6, .iload_n 3), (7, .iload 4), (9, .iload 5), (11, .iload 6), (13, .invokestatic 81), (16, .iload 6), (18, .if_icmp .lt 28), (21, .iload_n 2)]),
  (44, [(22, .ifCond .lt 26), (25, .aload_n 0), (26, .getfield 18), (29, .iload_n 2), (30, .aaload), (31, .iload_n 3), (32, .iload 4), (34, .iload 5), (36, .iload 6), (38, .invokestatic 81), (41, .iload 6), (43, .if_icmp .ge 5)]),
  (67, [(46, .iconst 0), (47, .ireturn), (48, .iconst 0), (49, .istore 7), (51, .iload 7), (53, .aload_n 0), (54, .getfield 51), (57, .if_icmp .ge 61), (60, .iload_n 2), (61, .ifCond .ge 57), (64, .iload 7), (66, .iload_n 1)]),
  (86, [(67, .if_icmp .eq 45), (70, .aload_n 0), (71, .getfield 18), (74, .iload 7), (76, .aaload), (77, .iconst 0), (78, .iaload), (79, .aload_n 0), (80, .getfield 18), (83, .iload_n 1), (84, .aaload), (85, .iconst 0)]),
  (108, [(86, .iaload), (87, .if_icmp .ne 25), (90, .aload_n 0), (91, .getfield 18), (94, .iload 7), (96, .aaload), (97, .iload_n 3), (98, .iload 4), (100, .iload 5), (102, .iload 6), (104, .invokestatic 81), (107, .ifCond .le 5)]),
  (132, [(110, .iconst 0), (111, .ireturn), (112, .iinc 7 1), (115, .goto (-64)), (118, .iconst 0), (119, .istore 7), (121, .iload 7), (123, .aload_n 0), (124, .getfield 85), (127, .if_icmp .ge 109), (130, .aload_n 0), (131, .getfield 22)]),
  (155, [(134, .iload 7), (136, .aaload), (137, .bipush 7), (139, .iaload), (140, .ifCond .ne 90), (143, .aload_n 0), (144, .getfield 18), (147, .aload_n 0), (148, .getfield 22), (151, .iload 7), (153, .aaload), (154, .iconst 0)]),
  (171, [(155, .iaload), (156, .aaload), (157, .iconst 0), (158, .iaload), (159, .aload_n 0), (160, .getfield 18), (163, .iload_n 1), (164, .aaload), (165, .iconst 0), (166, .iaload), (167, .if_icmp .ne 63), (170, .iload_n 3)]),
  (191, [(171, .iload 4), (173, .iload 5), (175, .iload 6), (177, .aload_n 0), (178, .getfield 22), (181, .iload 7), (183, .aaload), (184, .iconst 2), (185, .iaload), (186, .aload_n 0), (187, .getfield 22), (190, .iload 7)]),
  (209, [(192, .aaload), (193, .iconst 3), (194, .iaload), (195, .aload_n 0), (196, .getfield 22), (199, .iload 7), (201, .aaload), (202, .iconst 4), (203, .iaload), (204, .iconst 1), (205, .if_icmp .ne 7), (208, .iconst 1)]),
  (230, [(209, .goto 4), (212, .iconst 0), (213, .aload_n 0), (214, .getfield 22), (217, .iload 7), (219, .aaload), (220, .iconst 5), (221, .iaload), (222, .invokestatic 88), (225, .ifCond .eq 5), (228, .iconst 0), (229, .ireturn)]),
  (255, [(230, .iinc 7 1), (233, .goto (-112)), (236, .iconst 0), (237, .istore 7), (239, .iload 7), (241, .aload_n 0), (242, .getfield 92), (245, .if_icmp .ge 108), (248, .aload_n 0), (249, .getfield 25), (252, .iload 7), (254, .aaload)]),
  (274, [(255, .iconst 5), (256, .iaload), (257, .ifCond .ne 90), (260, .aload_n 0), (261, .getfield 18), (264, .aload_n 0), (265, .getfield 25), (268, .iload 7), (270, .aaload), (271, .iconst 0), (272, .iaload), (273, .aaload)]),
  (291, [(274, .iconst 0), (275, .iaload), (276, .aload_n 0), (277, .getfield 18), (280, .iload_n 1), (281, .aaload), (282, .iconst 0), (283, .iaload), (284, .if_icmp .ne 63), (287, .iload_n 3), (288, .iload 4), (290, .iload 5)]),
  (311, [(292, .iload 6), (294, .aload_n 0), (295, .getfield 25), (298, .iload 7), (300, .aaload), (301, .iconst 1), (302, .iaload), (303, .aload_n 0), (304, .getfield 25), (307, .iload 7), (309, .aaload), (310, .iconst 2)]),
  (330, [(311, .iaload), (312, .aload_n 0), (313, .getfield 25), (316, .iload 7), (318, .aaload), (319, .iconst 3), (320, .iaload), (321, .iconst 1), (322, .if_icmp .ne 7), (325, .iconst 1), (326, .goto 4), (329, .iconst 0)]),
  (351, [(330, .aload_n 0), (331, .getfield 25), (334, .iload 7), (336, .aaload), (337, .iconst 4), (338, .iaload), (339, .invokestatic 88), (342, .ifCond .eq 5), (345, .iconst 0), (346, .ireturn), (347, .iinc 7 1), (350, .goto (-111))]),
  (355, [(353, .iconst 1), (354, .ireturn)])]
theorem clo_X11_canBe : zk_okc cX11_canBe cl_X11_canBe = true := by decide +kernel
def rm_X11_canBe : Room := { frames := 1, cells := 0, slots := 0, locals := 32 }
def M_X11_canBe : zk_M := (zk_lkc cl_X11_canBe, zk_in [51, 121, 239], tb_X11, (some (.boolean), 0, 0), (zk_lka [], fun _ _ => none, zk_in [], zk_in [], zk_lka []))
theorem MO_X11_canBe : zk_MO RX11 cX11_canBe (yX11_canBe.name = "<init>") M_X11_canBe := zk_MO_of clo_X11_canBe rfl tbo_X11
theorem TO_X11_canBe : zk_TO RX11 cX11_canBe rm_X11_canBe M_X11_canBe := ⟨fun pc h => absurd (zk_in_mem h) List.not_mem_nil, fun pc h => absurd (zk_in_mem h) List.not_mem_nil, fun pc tag h => absurd (zk_lka_mem h) List.not_mem_nil⟩
theorem THo_X11_canBe : ∀ pc X, M_X11_canBe.2.2.2.2.1 pc = some X → zk_TH RX11 cX11_canBe rm_X11_canBe pc X := fun pc X h => absurd (zk_lka_mem h) List.not_mem_nil
def cl_X11_place : List (Nat × List (Nat × Instr)) := [(18, [(0, .aload_n 0), (1, .iconst 2), (2, .invokevirtual 54), (5, .ifCond .ne 7), (8, .iconst 1), (9, .goto 4), (12, .iconst 0), (13, .istore_n 2), (14, .iconst 1), (15, .aload_n 0), (16, .iconst 3), (17, .invokevirtual 54)]),
  (37, [(20, .iadd), (21, .istore_n 3), (22, .aload_n 0), (23, .getfield 18), (26, .iload_n 1), (27, .aaload), (28, .astore 4), (30, .iconst 0), (31, .aload_n 0), (32, .iload_n 2), (33, .ifCond .eq 10), (36, .aload 4)]),
  (55, [(38, .iconst 4), (39, .iaload), (40, .goto 7), (43, .aload 4), (45, .iconst 3), (46, .iaload), (47, .iconst 1), (48, .iadd), (49, .invokevirtual 54), (52, .aload_n 0), (53, .iconst 2), (54, .invokevirtual 54)]),
  (76, [(57, .iload_n 3), (58, .imul), (59, .isub), (60, .invokestatic 95), (63, .istore 5), (65, .aload_n 0), (66, .iconst 2), (67, .invokevirtual 54), (70, .istore 6), (72, .aload 4), (74, .iconst 1), (75, .iaload)]),
  (95, [(76, .iload_n 2), (77, .ifCond .eq 13), (80, .iload 6), (82, .aload 4), (84, .iconst 3), (85, .iaload), (86, .imul), (87, .goto 5), (90, .iload 5), (92, .iadd), (93, .aload_n 0), (94, .bipush 9)]),
  (116, [(96, .invokevirtual 54), (99, .ifCond .ne 7), (102, .iconst 1), (103, .goto 4), (106, .iconst 0), (107, .iadd), (108, .istore 7), (110, .aload 4), (112, .iconst 2), (113, .iaload), (114, .iload_n 2), (115, .ifCond .eq 8)]),
  (137, [(118, .iload 5), (120, .goto 10), (123, .iload 6), (125, .aload 4), (127, .iconst 4), (128, .iaload), (129, .imul), (130, .iadd), (131, .istore 8), (133, .iconst 4), (134, .newarray .int), (136, .dup)]),
  (153, [(137, .iconst 0), (138, .iload 7), (140, .iastore), (141, .dup), (142, .iconst 1), (143, .iload 8), (145, .iastore), (146, .dup), (147, .iconst 2), (148, .iload_n 2), (149, .ifCond .eq 7), (152, .iconst 1)]),
  (167, [(153, .goto 4), (156, .iconst 0), (157, .iastore), (158, .dup), (159, .iconst 3), (160, .iload_n 3), (161, .iastore), (162, .astore 9), (164, .aload 9), (166, .areturn)])]
theorem clo_X11_place : zk_okc cX11_place cl_X11_place = true := by decide +kernel
def rm_X11_place : Room := { frames := 2, cells := 1, slots := 4, locals := 43 }
def M_X11_place : zk_M := (zk_lkc cl_X11_place, zk_in [], tb_X11, (some (.array .int), 1, 4), (zk_lka [], fun _ _ => none, zk_in [], zk_in [], zk_lka [(60, 1)]))
theorem MO_X11_place : zk_MO RX11 cX11_place (yX11_place.name = "<init>") M_X11_place := zk_MO_of clo_X11_place rfl tbo_X11
theorem TO_X11_place : zk_TO RX11 cX11_place rm_X11_place M_X11_place := ⟨fun pc h => absurd (zk_in_mem h) List.not_mem_nil, fun pc h => absurd (zk_in_mem h) List.not_mem_nil, fun pc tag h => by
    have h2 := zk_lka_mem h
    simp only [List.mem_cons, List.not_mem_nil, or_false, Prod.mk.injEq] at h2
    rcases h2 with ⟨rfl, rfl⟩
    exact ⟨95, by decide +kernel, zk_wi 744 (by decide +kernel) rfl, by decide, by decide⟩⟩
theorem THo_X11_place : ∀ pc X, M_X11_place.2.2.2.2.1 pc = some X → zk_TH RX11 cX11_place rm_X11_place pc X := fun pc X h => absurd (zk_lka_mem h) List.not_mem_nil
def cl_X11_addDoor : List (Nat × List (Nat × Instr)) := [(17, [(0, .aload_n 0), (1, .invokevirtual 100), (4, .istore_n 1), (5, .aload_n 0), (6, .iload_n 1), (7, .invokevirtual 104), (10, .astore_n 2), (11, .iconst (-1)), (12, .istore_n 3), (13, .iconst 0), (14, .istore 4), (16, .iload 4)]),
  (42, [(18, .aload_n 0), (19, .getfield 51), (22, .if_icmp .ge 81), (25, .iload 4), (27, .iload_n 1), (28, .if_icmp .eq 69), (31, .aload_n 0), (32, .iload 4), (34, .invokevirtual 58), (37, .ifCond .eq 60), (40, .aload_n 0), (41, .getfield 18)]),
  (61, [(44, .iload 4), (46, .aaload), (47, .iconst 0), (48, .iaload), (49, .aload_n 0), (50, .getfield 18), (53, .iload_n 1), (54, .aaload), (55, .iconst 0), (56, .iaload), (57, .if_icmp .ne 40), (60, .aload_n 0)]),
  (76, [(61, .getfield 18), (64, .iload 4), (66, .aaload), (67, .aload_n 2), (68, .iconst 0), (69, .iaload), (70, .aload_n 2), (71, .iconst 1), (72, .iaload), (73, .aload_n 2), (74, .iconst 2), (75, .iaload)]),
  (97, [(76, .iconst 1), (77, .if_icmp .ne 7), (80, .iconst 1), (81, .goto 4), (84, .iconst 0), (85, .aload_n 2), (86, .iconst 3), (87, .iaload), (88, .invokestatic 81), (91, .ifCond .le 6), (94, .iload 4), (96, .istore_n 3)]),
  (119, [(97, .iinc 4 1), (100, .goto (-84)), (103, .iload_n 3), (104, .ifCond .ge 16), (107, .aload_n 0), (108, .getfield 18), (111, .iload_n 1), (112, .aaload), (113, .iconst 0), (114, .iaload), (115, .ifCond .le 5), (118, .iconst 1)]),
  (138, [(119, .ireturn), (120, .aload_n 0), (121, .iload_n 1), (122, .aload_n 0), (123, .bipush 12), (125, .invokevirtual 54), (128, .ifCond .ne 18), (131, .aload_n 0), (132, .getfield 18), (135, .iload_n 1), (136, .aaload), (137, .iconst 0)]),
  (154, [(138, .iaload), (139, .ifCond .ne 7), (142, .iconst (-1)), (143, .goto 4), (146, .iload_n 3), (147, .aload_n 2), (148, .iconst 0), (149, .iaload), (150, .aload_n 2), (151, .iconst 1), (152, .iaload), (153, .aload_n 2)]),
  (172, [(154, .iconst 2), (155, .iaload), (156, .iconst 1), (157, .if_icmp .ne 7), (160, .iconst 1), (161, .goto 4), (164, .iconst 0), (165, .aload_n 2), (166, .iconst 3), (167, .iaload), (168, .invokevirtual 108), (171, .ireturn)])]
theorem clo_X11_addDoor : zk_okc cX11_addDoor cl_X11_addDoor = true := by decide +kernel
def rm_X11_addDoor : Room := { frames := 9, cells := 9, slots := 55, locals := 172 }
def M_X11_addDoor : zk_M := (zk_lkc cl_X11_addDoor, zk_in [16], tb_X11, (some (.boolean), 9, 55), (zk_lka [], fun _ _ => none, zk_in [], zk_in [], zk_lka []))
theorem MO_X11_addDoor : zk_MO RX11 cX11_addDoor (yX11_addDoor.name = "<init>") M_X11_addDoor := zk_MO_of clo_X11_addDoor rfl tbo_X11
theorem TO_X11_addDoor : zk_TO RX11 cX11_addDoor rm_X11_addDoor M_X11_addDoor := ⟨fun pc h => absurd (zk_in_mem h) List.not_mem_nil, fun pc h => absurd (zk_in_mem h) List.not_mem_nil, fun pc tag h => absurd (zk_lka_mem h) List.not_mem_nil⟩
theorem THo_X11_addDoor : ∀ pc X, M_X11_addDoor.2.2.2.2.1 pc = some X → zk_TH RX11 cX11_addDoor rm_X11_addDoor pc X := fun pc X h => absurd (zk_lka_mem h) List.not_mem_nil
def cl_X11_addDoor_ : List (Nat × List (Nat × Instr)) := [(20, [(0, .aload_n 0), (1, .getfield 85), (4, .bipush 40), (6, .if_icmp .ge 23), (9, .aload_n 0), (10, .iload_n 1), (11, .iload_n 2), (12, .iload_n 3), (13, .iload 4), (15, .iload 5), (17, .iload 6), (19, .invokevirtual 112)]),
  (41, [(22, .ifCond .eq 7), (25, .iconst 1), (26, .goto 4), (29, .iconst 0), (30, .istore 7), (32, .bipush 8), (34, .newarray .int), (36, .dup), (37, .iconst 0), (38, .iload_n 1), (39, .iastore), (40, .dup)]),
  (54, [(41, .iconst 1), (42, .iload_n 2), (43, .iastore), (44, .dup), (45, .iconst 2), (46, .iload_n 3), (47, .iastore), (48, .dup), (49, .iconst 3), (50, .iload 4), (52, .iastore), (53, .dup)]),
  (72, [(54, .iconst 4), (55, .iload 5), (57, .ifCond .eq 7), (60, .iconst 1), (61, .goto 4), (64, .iconst 0), (65, .iastore), (66, .dup), (67, .iconst 5), (68, .iload 6), (70, .iastore), (71, .dup)]),
  (89, [(72, .bipush 6), (74, .iconst 0), (75, .iastore), (76, .dup), (77, .bipush 7), (79, .iconst 0), (80, .iastore), (81, .astore 8), (83, .aload_n 0), (84, .getfield 10), (87, .iload_n 1), (88, .iload_n 2)]),
  (112, [(89, .iload_n 3), (90, .iload 4), (92, .iload 5), (94, .iload 6), (96, .invokevirtual 115), (99, .istore 9), (101, .aload_n 0), (102, .getfield 22), (105, .aload_n 0), (106, .getfield 85), (109, .aload 8), (111, .aastore)]),
  (134, [(112, .iload 7), (114, .ifCond .eq 23), (117, .iload 9), (119, .aload_n 0), (120, .dup), (121, .getfield 85), (124, .dup_x1), (125, .iconst 1), (126, .iadd), (127, .putfield 85), (130, .if_icmp .ne 7), (133, .iconst 1)]),
  (152, [(134, .goto 4), (137, .iconst 0), (138, .ireturn), (139, .astore 9), (141, .iload 7), (143, .ifCond .ne 7), (146, .iconst 1), (147, .goto 4), (150, .iconst 0), (151, .ireturn)])]
theorem clo_X11_addDoor_ : zk_okc cX11_addDoor_ cl_X11_addDoor_ = true := by decide +kernel
def rm_X11_addDoor_ : Room := { frames := 8, cells := 8, slots := 51, locals := 143 }
def M_X11_addDoor_ : zk_M := (zk_lkc cl_X11_addDoor_, zk_in [], tb_X11, (some (.boolean), 8, 51), (zk_lka [], fun pc X => match Nat.beq 96 pc with
  | true => if X = "java/lang/IllegalStateException" then some 139 else none
  | false => none, zk_in [], zk_in [], zk_lka []))
theorem MO_X11_addDoor_ : zk_MO RX11 cX11_addDoor_ (yX11_addDoor_.name = "<init>") M_X11_addDoor_ := zk_MO_of clo_X11_addDoor_ rfl tbo_X11
theorem TO_X11_addDoor_ : zk_TO RX11 cX11_addDoor_ rm_X11_addDoor_ M_X11_addDoor_ := ⟨fun pc h => absurd (zk_in_mem h) List.not_mem_nil, fun pc h => absurd (zk_in_mem h) List.not_mem_nil, fun pc tag h => absurd (zk_lka_mem h) List.not_mem_nil⟩
theorem THo_X11_addDoor_ : ∀ pc X, M_X11_addDoor_.2.2.2.2.1 pc = some X → zk_TH RX11 cX11_addDoor_ rm_X11_addDoor_ pc X := fun pc X h => absurd (zk_lka_mem h) List.not_mem_nil
def cl_X11_isPointOf : List (Nat × List (Nat × Instr)) := [(14, [(0, .iload_n 1), (1, .aload_n 0), (2, .iconst 1), (3, .iaload), (4, .if_icmp .lt 36), (7, .iload_n 1), (8, .aload_n 0), (9, .iconst 1), (10, .iaload), (11, .aload_n 0), (12, .iconst 3), (13, .iaload)]),
  (30, [(14, .iadd), (15, .if_icmp .gt 25), (18, .iload_n 2), (19, .aload_n 0), (20, .iconst 2), (21, .iaload), (22, .if_icmp .lt 18), (25, .iload_n 2), (26, .aload_n 0), (27, .iconst 2), (28, .iaload), (29, .aload_n 0)]),
  (42, [(30, .iconst 4), (31, .iaload), (32, .iadd), (33, .if_icmp .gt 7), (36, .iconst 1), (37, .goto 4), (40, .iconst 0), (41, .ireturn)])]
theorem clo_X11_isPointOf : zk_okc cX11_isPointOf cl_X11_isPointOf = true := by decide +kernel
def rm_X11_isPointOf : Room := { frames := 0, cells := 0, slots := 0, locals := 0 }
def M_X11_isPointOf : zk_M := (zk_lkc cl_X11_isPointOf, zk_in [], tb_X11, (some (.boolean), 0, 0), (zk_lka [], fun _ _ => none, zk_in [], zk_in [], zk_lka []))
theorem MO_X11_isPointOf : zk_MO RX11 cX11_isPointOf (yX11_isPointOf.name = "<init>") M_X11_isPointOf := zk_MO_of clo_X11_isPointOf rfl tbo_X11
theorem TO_X11_isPointOf : zk_TO RX11 cX11_isPointOf rm_X11_isPointOf M_X11_isPointOf := ⟨fun pc h => absurd (zk_in_mem h) List.not_mem_nil, fun pc h => absurd (zk_in_mem h) List.not_mem_nil, fun pc tag h => absurd (zk_lka_mem h) List.not_mem_nil⟩
theorem THo_X11_isPointOf : ∀ pc X, M_X11_isPointOf.2.2.2.2.1 pc = some X → zk_TH RX11 cX11_isPointOf rm_X11_isPointOf pc X := fun pc X h => absurd (zk_lka_mem h) List.not_mem_nil
def cl_X11_addStairs : List (Nat × List (Nat × Instr)) := [(18, [(0, .aload_n 0), (1, .invokevirtual 100), (4, .istore_n 1), (5, .aload_n 0), (6, .invokevirtual 100), (9, .istore_n 2), (10, .aload_n 0), (11, .getfield 18), (14, .iload_n 1), (15, .aaload), (16, .iconst 0), (17, .iaload)]),
  (34, [(18, .aload_n 0), (19, .getfield 18), (22, .iload_n 2), (23, .aaload), (24, .iconst 0), (25, .iaload), (26, .if_icmp .le 9), (29, .iload_n 1), (30, .istore_n 3), (31, .iload_n 2), (32, .istore_n 1), (33, .iload_n 3)]),
  (50, [(34, .istore_n 2), (35, .aload_n 0), (36, .getfield 18), (39, .iload_n 1), (40, .aaload), (41, .iconst 1), (42, .iaload), (43, .aload_n 0), (44, .aload_n 0), (45, .getfield 18), (48, .iload_n 1), (49, .aaload)]),
  (66, [(50, .iconst 3), (51, .iaload), (52, .iconst 1), (53, .iadd), (54, .invokevirtual 54), (57, .iadd), (58, .istore_n 3), (59, .aload_n 0), (60, .getfield 18), (63, .iload_n 1), (64, .aaload), (65, .iconst 2)]),
  (82, [(66, .iaload), (67, .aload_n 0), (68, .aload_n 0), (69, .getfield 18), (72, .iload_n 1), (73, .aaload), (74, .iconst 4), (75, .iaload), (76, .iconst 1), (77, .iadd), (78, .invokevirtual 54), (81, .iadd)]),
  (99, [(82, .istore 4), (84, .aload_n 0), (85, .getfield 18), (88, .iload_n 2), (89, .aaload), (90, .iconst 0), (91, .iaload), (92, .aload_n 0), (93, .getfield 18), (96, .iload_n 1), (97, .aaload), (98, .iconst 0)]),
  (118, [(99, .iaload), (100, .iconst 1), (101, .iadd), (102, .if_icmp .ne 22), (105, .aload_n 0), (106, .getfield 18), (109, .iload_n 2), (110, .aaload), (111, .iload_n 3), (112, .iload 4), (114, .invokestatic 125), (117, .ifCond .eq 7)]),
  (136, [(120, .iconst 1), (121, .goto 4), (124, .iconst 0), (125, .istore 5), (127, .iconst 5), (128, .newarray .int), (130, .dup), (131, .iconst 0), (132, .iload_n 1), (133, .iastore), (134, .dup), (135, .iconst 1)]),
  (149, [(136, .iload_n 2), (137, .iastore), (138, .dup), (139, .iconst 2), (140, .iload_n 3), (141, .iastore), (142, .dup), (143, .iconst 3), (144, .iload 4), (146, .iastore), (147, .dup), (148, .iconst 4)]),
  (169, [(149, .iconst 0), (150, .iastore), (151, .astore 6), (153, .aload_n 0), (154, .getfield 129), (157, .bipush 10), (159, .if_icmp .ne 5), (162, .iconst 1), (163, .ireturn), (164, .aload_n 0), (165, .getfield 10), (168, .iload_n 1)]),
  (190, [(169, .iload_n 2), (170, .iload_n 3), (171, .iload 4), (173, .invokevirtual 132), (176, .istore 7), (178, .aload_n 0), (179, .getfield 28), (182, .aload_n 0), (183, .getfield 129), (186, .aload 6), (188, .aastore), (189, .iload 5)]),
  (212, [(191, .ifCond .eq 23), (194, .iload 7), (196, .aload_n 0), (197, .dup), (198, .getfield 129), (201, .dup_x1), (202, .iconst 1), (203, .iadd), (204, .putfield 129), (207, .if_icmp .ne 7), (210, .iconst 1), (211, .goto 4)]),
  (229, [(214, .iconst 0), (215, .ireturn), (216, .astore 7), (218, .iload 5), (220, .ifCond .ne 7), (223, .iconst 1), (224, .goto 4), (227, .iconst 0), (228, .ireturn)])]
theorem clo_X11_addStairs : zk_okc cX11_addStairs cl_X11_addStairs = true := by decide +kernel
def rm_X11_addStairs : Room := { frames := 8, cells := 6, slots := 36, locals := 131 }
def M_X11_addStairs : zk_M := (zk_lkc cl_X11_addStairs, zk_in [], tb_X11, (some (.boolean), 6, 36), (zk_lka [], fun pc X => match Nat.beq 173 pc with
  | true => if X = "java/lang/IllegalArgumentException" then some 216 else none
  | false => none, zk_in [], zk_in [], zk_lka []))
theorem MO_X11_addStairs : zk_MO RX11 cX11_addStairs (yX11_addStairs.name = "<init>") M_X11_addStairs := zk_MO_of clo_X11_addStairs rfl tbo_X11
theorem TO_X11_addStairs : zk_TO RX11 cX11_addStairs rm_X11_addStairs M_X11_addStairs := ⟨fun pc h => absurd (zk_in_mem h) List.not_mem_nil, fun pc h => absurd (zk_in_mem h) List.not_mem_nil, fun pc tag h => absurd (zk_lka_mem h) List.not_mem_nil⟩
theorem THo_X11_addStairs : ∀ pc X, M_X11_addStairs.2.2.2.2.1 pc = some X → zk_TH RX11 cX11_addStairs rm_X11_addStairs pc X := fun pc X h => absurd (zk_lka_mem h) List.not_mem_nil
def cl_X11_shut : List (Nat × List (Nat × Instr)) := [(22, [(0, .aload_n 0), (1, .getfield 85), (4, .ifCond .ne 7), (7, .iconst (-1)), (8, .goto 11), (11, .aload_n 0), (12, .aload_n 0), (13, .getfield 85), (16, .invokevirtual 54), (19, .istore_n 1), (20, .iload_n 1), (21, .ifCond .lt 16)]),
  (41, [(24, .aload_n 0), (25, .getfield 22), (28, .iload_n 1), (29, .aaload), (30, .bipush 7), (32, .iaload), (33, .iconst 1), (34, .if_icmp .ne 5), (37, .iconst 1), (38, .ireturn), (39, .aload_n 0), (40, .getfield 22)]),
  (59, [(43, .iload_n 1), (44, .aaload), (45, .bipush 6), (47, .iaload), (48, .istore_n 2), (49, .aload_n 0), (50, .getfield 22), (53, .iload_n 1), (54, .aaload), (55, .bipush 6), (57, .aload_n 0), (58, .iconst 2)]),
  (78, [(59, .invokevirtual 54), (62, .iastore), (63, .aload_n 0), (64, .getfield 10), (67, .iload_n 1), (68, .aload_n 0), (69, .getfield 22), (72, .iload_n 1), (73, .aaload), (74, .bipush 6), (76, .iaload), (77, .iconst 1)]),
  (100, [(78, .if_icmp .ne 7), (81, .iconst 1), (82, .goto 4), (85, .iconst 0), (86, .invokevirtual 138), (89, .iload_n 2), (90, .iconst 1), (91, .if_icmp .ne 7), (94, .iconst 1), (95, .goto 4), (98, .iconst 0), (99, .if_icmp .ne 7)]),
  (108, [(102, .iconst 1), (103, .goto 4), (106, .iconst 0), (107, .ireturn)])]
theorem clo_X11_shut : zk_okc cX11_shut cl_X11_shut = true := by decide +kernel
def rm_X11_shut : Room := { frames := 8, cells := 1, slots := 6, locals := 128 }
def M_X11_shut : zk_M := (zk_lkc cl_X11_shut, zk_in [], tb_X11, (some (.boolean), 1, 6), (zk_lka [], fun _ _ => none, zk_in [], zk_in [], zk_lka []))
theorem MO_X11_shut : zk_MO RX11 cX11_shut (yX11_shut.name = "<init>") M_X11_shut := zk_MO_of clo_X11_shut rfl tbo_X11
theorem TO_X11_shut : zk_TO RX11 cX11_shut rm_X11_shut M_X11_shut := ⟨fun pc h => absurd (zk_in_mem h) List.not_mem_nil, fun pc h => absurd (zk_in_mem h) List.not_mem_nil, fun pc tag h => absurd (zk_lka_mem h) List.not_mem_nil⟩
theorem THo_X11_shut : ∀ pc X, M_X11_shut.2.2.2.2.1 pc = some X → zk_TH RX11 cX11_shut rm_X11_shut pc X := fun pc X h => absurd (zk_lka_mem h) List.not_mem_nil
def cl_X11_removeRoom : List (Nat × List (Nat × Instr)) := [(18, [(0, .aload_n 0), (1, .invokevirtual 100), (4, .istore_n 1), (5, .iconst 0), (6, .istore_n 2), (7, .iconst 0), (8, .istore_n 3), (9, .iload_n 3), (10, .aload_n 0), (11, .getfield 85), (14, .if_icmp .ge 62), (17, .aload_n 0)]),
  (37, [(18, .getfield 22), (21, .iload_n 3), (22, .aaload), (23, .bipush 7), (25, .iaload), (26, .iconst 1), (27, .if_icmp .eq 43), (30, .aload_n 0), (31, .getfield 22), (34, .iload_n 3), (35, .aaload), (36, .iconst 0)]),
  (55, [(37, .iaload), (38, .iload_n 1), (39, .if_icmp .eq 18), (42, .aload_n 0), (43, .getfield 22), (46, .iload_n 3), (47, .aaload), (48, .iconst 1), (49, .iaload), (50, .iload_n 1), (51, .if_icmp .eq 6), (54, .goto 16)]),
  (78, [(57, .aload_n 0), (58, .getfield 22), (61, .iload_n 3), (62, .aaload), (63, .bipush 7), (65, .iconst 1), (66, .iastore), (67, .iinc 2 1), (70, .iinc 3 1), (73, .goto (-64)), (76, .iconst 0), (77, .istore_n 3)]),
  (96, [(78, .iload_n 3), (79, .aload_n 0), (80, .getfield 92), (83, .if_icmp .ge 48), (86, .aload_n 0), (87, .getfield 25), (90, .iload_n 3), (91, .aaload), (92, .iconst 5), (93, .iaload), (94, .iconst 1), (95, .if_icmp .eq 30)]),
  (118, [(98, .aload_n 0), (99, .getfield 25), (102, .iload_n 3), (103, .aaload), (104, .iconst 0), (105, .iaload), (106, .iload_n 1), (107, .if_icmp .eq 6), (110, .goto 15), (113, .aload_n 0), (114, .getfield 25), (117, .iload_n 3)]),
  (136, [(118, .aaload), (119, .iconst 5), (120, .iconst 1), (121, .iastore), (122, .iinc 2 1), (125, .iinc 3 1), (128, .goto (-50)), (131, .iconst 0), (132, .istore_n 3), (133, .iload_n 3), (134, .aload_n 0), (135, .getfield 129)]),
  (158, [(138, .if_icmp .ge 60), (141, .aload_n 0), (142, .getfield 28), (145, .iload_n 3), (146, .aaload), (147, .iconst 4), (148, .iaload), (149, .iconst 1), (150, .if_icmp .eq 42), (153, .aload_n 0), (154, .getfield 28), (157, .iload_n 3)]),
  (174, [(158, .aaload), (159, .iconst 0), (160, .iaload), (161, .iload_n 1), (162, .if_icmp .eq 18), (165, .aload_n 0), (166, .getfield 28), (169, .iload_n 3), (170, .aaload), (171, .iconst 1), (172, .iaload), (173, .iload_n 1)]),
  (196, [(174, .if_icmp .eq 6), (177, .goto 15), (180, .aload_n 0), (181, .getfield 28), (184, .iload_n 3), (185, .aaload), (186, .iconst 4), (187, .iconst 1), (188, .iastore), (189, .iinc 2 1), (192, .iinc 3 1), (195, .goto (-62))]),
  (217, [(198, .iconst 0), (199, .istore_n 3), (200, .iconst 0), (201, .istore 4), (203, .iload 4), (205, .aload_n 0), (206, .getfield 51), (209, .if_icmp .ge 26), (212, .iload_n 3), (213, .aload_n 0), (214, .iload 4), (216, .invokevirtual 58)]),
  (241, [(219, .ifCond .eq 7), (222, .iconst 1), (223, .goto 4), (226, .iconst 0), (227, .iadd), (228, .istore_n 3), (229, .iinc 4 1), (232, .goto (-29)), (235, .aload_n 0), (236, .getfield 18), (239, .iload_n 1), (240, .aaload)]),
  (257, [(241, .iconst 0), (242, .bipush 9), (244, .iastore), (245, .aload_n 0), (246, .getfield 18), (249, .iload_n 1), (250, .aaload), (251, .bipush 6), (253, .iconst 0), (254, .iastore), (255, .aload_n 0), (256, .getfield 10)]),
  (282, [(259, .iload_n 1), (260, .invokevirtual 142), (263, .iload_n 2), (264, .if_icmp .ne 36), (267, .iload_n 3), (268, .iconst 1), (269, .if_icmp .gt 27), (272, .aload_n 0), (273, .getfield 51), (276, .bipush 20), (278, .if_icmp .eq 18), (281, .aload_n 0)]),
  (302, [(282, .iconst 0), (283, .bipush 30), (285, .bipush 30), (287, .iconst 5), (288, .iconst 5), (289, .iconst 0), (290, .invokevirtual 72), (293, .ifCond .eq 7), (296, .iconst 1), (297, .goto 4), (300, .iconst 0), (301, .ireturn)])]
theorem clo_X11_removeRoom : zk_okc cX11_removeRoom cl_X11_removeRoom = true := by decide +kernel
def rm_X11_removeRoom : Room := { frames := 8, cells := 6, slots := 39, locals := 139 }
def M_X11_removeRoom : zk_M := (zk_lkc cl_X11_removeRoom, zk_in [9, 78, 133, 203], tb_X11, (some (.boolean), 6, 39), (zk_lka [], fun _ _ => none, zk_in [], zk_in [], zk_lka []))
theorem MO_X11_removeRoom : zk_MO RX11 cX11_removeRoom (yX11_removeRoom.name = "<init>") M_X11_removeRoom := zk_MO_of clo_X11_removeRoom rfl tbo_X11
theorem TO_X11_removeRoom : zk_TO RX11 cX11_removeRoom rm_X11_removeRoom M_X11_removeRoom := ⟨fun pc h => absurd (zk_in_mem h) List.not_mem_nil, fun pc h => absurd (zk_in_mem h) List.not_mem_nil, fun pc tag h => absurd (zk_lka_mem h) List.not_mem_nil⟩
theorem THo_X11_removeRoom : ∀ pc X, M_X11_removeRoom.2.2.2.2.1 pc = some X → zk_TH RX11 cX11_removeRoom rm_X11_removeRoom pc X := fun pc X h => absurd (zk_lka_mem h) List.not_mem_nil
def cl_L_below : List (Nat × List (Nat × Instr)) := [(7, [(0, .iload_n 0), (1, .ldc 7), (3, .iand), (4, .iload_n 1), (5, .irem), (6, .ireturn)])]
theorem clo_L_below : zk_okc cL_below cl_L_below = true := by decide +kernel
def rm_L_below : Room := { frames := 0, cells := 0, slots := 0, locals := 0 }
def M_L_below : zk_M := (zk_lkc cl_L_below, zk_in [], tb_L, (some (.int), 0, 0), (zk_lka [], fun _ _ => none, zk_in [], zk_in [], zk_lka []))
theorem MO_L_below : zk_MO RL cL_below (yL_below.name = "<init>") M_L_below := zk_MO_of clo_L_below rfl tbo_L
theorem TO_L_below : zk_TO RL cL_below rm_L_below M_L_below := ⟨fun pc h => absurd (zk_in_mem h) List.not_mem_nil, fun pc h => absurd (zk_in_mem h) List.not_mem_nil, fun pc tag h => absurd (zk_lka_mem h) List.not_mem_nil⟩
theorem THo_L_below : ∀ pc X, M_L_below.2.2.2.2.1 pc = some X → zk_TH RL cL_below rm_L_below pc X := fun pc X h => absurd (zk_lka_mem h) List.not_mem_nil
def cl_L_cell : List (Nat × List (Nat × Instr)) := [(17, [(0, .iload_n 1), (1, .aload_n 0), (2, .arraylength), (3, .if_icmp .ge 9), (6, .aload_n 0), (7, .iload_n 1), (8, .iaload), (9, .goto 9), (12, .ldc 8), (14, .iload_n 1), (15, .iconst 3), (16, .iadd)]),
  (19, [(17, .imul), (18, .ireturn)])]
theorem clo_L_cell : zk_okc cL_cell cl_L_cell = true := by decide +kernel
def rm_L_cell : Room := { frames := 0, cells := 0, slots := 0, locals := 0 }
def M_L_cell : zk_M := (zk_lkc cl_L_cell, zk_in [], tb_L, (some (.int), 0, 0), (zk_lka [], fun _ _ => none, zk_in [], zk_in [], zk_lka []))
theorem MO_L_cell : zk_MO RL cL_cell (yL_cell.name = "<init>") M_L_cell := zk_MO_of clo_L_cell rfl tbo_L
theorem TO_L_cell : zk_TO RL cL_cell rm_L_cell M_L_cell := ⟨fun pc h => absurd (zk_in_mem h) List.not_mem_nil, fun pc h => absurd (zk_in_mem h) List.not_mem_nil, fun pc tag h => absurd (zk_lka_mem h) List.not_mem_nil⟩
theorem THo_L_cell : ∀ pc X, M_L_cell.2.2.2.2.1 pc = some X → zk_TH RL cL_cell rm_L_cell pc X := fun pc X h => absurd (zk_lka_mem h) List.not_mem_nil
def cl_L_leadsOut : List (Nat × List (Nat × Instr)) := [(19, [(0, .iload_n 1), (1, .ifCond .lt 24), (4, .iload_n 1), (5, .bipush 100), (7, .if_icmp .ge 18), (10, .aload_n 0), (11, .getfield 74), (14, .iload_n 1), (15, .aaload), (16, .iconst 1), (17, .iaload), (18, .ifCond .ge 7)]),
  (27, [(21, .iconst 1), (22, .goto 4), (25, .iconst 0), (26, .ireturn)])]
theorem clo_L_leadsOut : zk_okc cL_leadsOut cl_L_leadsOut = true := by decide +kernel
def rm_L_leadsOut : Room := { frames := 0, cells := 0, slots := 0, locals := 0 }
def M_L_leadsOut : zk_M := (zk_lkc cl_L_leadsOut, zk_in [], tb_L, (some (.boolean), 0, 0), (zk_lka [], fun _ _ => none, zk_in [], zk_in [], zk_lka []))
theorem MO_L_leadsOut : zk_MO RL cL_leadsOut (yL_leadsOut.name = "<init>") M_L_leadsOut := zk_MO_of clo_L_leadsOut rfl tbo_L
theorem TO_L_leadsOut : zk_TO RL cL_leadsOut rm_L_leadsOut M_L_leadsOut := ⟨fun pc h => absurd (zk_in_mem h) List.not_mem_nil, fun pc h => absurd (zk_in_mem h) List.not_mem_nil, fun pc tag h => absurd (zk_lka_mem h) List.not_mem_nil⟩
theorem THo_L_leadsOut : ∀ pc X, M_L_leadsOut.2.2.2.2.1 pc = some X → zk_TH RL cL_leadsOut rm_L_leadsOut pc X := fun pc X h => absurd (zk_lka_mem h) List.not_mem_nil
