/-! each method: its code, stops, throws; what the tables say of it -/
set_option maxRecDepth 20000 in
theorem ats_0 : ∀ w ∈ vx_atS RX10 49 "java/lang/IllegalArgumentException" ["java/lang/RuntimeException", "java/lang/Exception"], (w ∈ lw_tbl ∧ (goodWord w || (zk_nx w && w.onTables)) = true) ∧ vx_ot w = true := by decide +kernel
set_option maxRecDepth 20000 in
theorem ats_1 : ∀ w ∈ vx_atS RX10 60 "java/lang/IllegalStateException" ["java/lang/RuntimeException", "java/lang/Exception"], (w ∈ lw_tbl ∧ (goodWord w || (zk_nx w && w.onTables)) = true) ∧ vx_ot w = true := by decide +kernel
set_option maxRecDepth 20000 in
theorem ats_2 : ∀ w ∈ vx_atS RX10 186 "java/lang/IndexOutOfBoundsException" ["java/lang/RuntimeException", "java/lang/Exception"], (w ∈ lw_tbl ∧ (goodWord w || (zk_nx w && w.onTables)) = true) ∧ vx_ot w = true := by decide +kernel
def cl_X0_init : List (Nat × List (Nat × Instr)) := [(21, [(0, .aload_n 0), (1, .invokespecial 3), (4, .aload_n 0), (5, .bipush 20), (7, .newarray .int), (9, .putfield 9), (12, .aload_n 0), (13, .bipush 20), (15, .newarray .int), (17, .putfield 15), (20, .return_)])]
theorem clo_X0_init : zk_okc cX0_init cl_X0_init = true := by decide +kernel
def rm_X0_init : Room := { frames := 1, cells := 2, slots := 40, locals := 20 }
def M_X0_init : zk_M := (zk_lkc cl_X0_init, zk_in [], tbi_X0, (none, 2, 40), (zk_lka [], fun _ _ => none, zk_in [1], zk_in [], zk_lka []))
theorem MO_X0_init : zk_MO RX0 cX0_init (yX0_init.name = "<init>") M_X0_init := zk_MO_of clo_X0_init rfl (tbio_X0 rfl)
theorem TO_X0_init : zk_TO RX0 cX0_init rm_X0_init M_X0_init := ⟨fun pc h => by
    have h2 := zk_in_mem h
    simp only [List.mem_cons, List.not_mem_nil, or_false] at h2
    subst h2
    exact ⟨3, by decide +kernel, zk_wi 135 (by decide +kernel) rfl, by decide, by decide⟩, fun pc h => absurd (zk_in_mem h) List.not_mem_nil, fun pc tag h => absurd (zk_lka_mem h) List.not_mem_nil⟩
theorem THo_X0_init : ∀ pc X, M_X0_init.2.2.2.2.1 pc = some X → zk_TH RX0 cX0_init rm_X0_init pc X := fun pc X h => absurd (zk_lka_mem h) List.not_mem_nil
def cl_X0_gather : List (Nat × List (Nat × Instr)) := [(17, [(0, .iconst 0), (1, .istore_n 2), (2, .iload_n 2), (3, .bipush 20), (5, .if_icmp .ge 34), (8, .aload_n 1), (9, .getfield 18), (12, .iload_n 2), (13, .aaload), (14, .astore_n 3), (15, .aload_n 0), (16, .getfield 9)]),
  (40, [(19, .iload_n 2), (20, .aload_n 3), (21, .ifnonnull 7), (24, .iconst 0), (25, .goto 7), (28, .aload_n 3), (29, .getfield 24), (32, .iastore), (33, .iinc 2 1), (36, .goto (-34)), (39, .return_)])]
theorem clo_X0_gather : zk_okc cX0_gather cl_X0_gather = true := by decide +kernel
def rm_X0_gather : Room := { frames := 0, cells := 0, slots := 0, locals := 0 }
def M_X0_gather : zk_M := (zk_lkc cl_X0_gather, zk_in [2], tb_X0, (none, 0, 0), (zk_lka [], fun _ _ => none, zk_in [], zk_in [], zk_lka []))
theorem MO_X0_gather : zk_MO RX0 cX0_gather (yX0_gather.name = "<init>") M_X0_gather := zk_MO_of clo_X0_gather rfl tbo_X0
theorem TO_X0_gather : zk_TO RX0 cX0_gather rm_X0_gather M_X0_gather := ⟨fun pc h => absurd (zk_in_mem h) List.not_mem_nil, fun pc h => absurd (zk_in_mem h) List.not_mem_nil, fun pc tag h => absurd (zk_lka_mem h) List.not_mem_nil⟩
theorem THo_X0_gather : ∀ pc X, M_X0_gather.2.2.2.2.1 pc = some X → zk_TH RX0 cX0_gather rm_X0_gather pc X := fun pc X h => absurd (zk_lka_mem h) List.not_mem_nil
def cl_X0_goOn : List (Nat × List (Nat × Instr)) := [(20, [(0, .aload_n 0), (1, .aload_n 1), (2, .invokevirtual 30), (5, .iconst 0), (6, .istore 4), (8, .iload 4), (10, .iload_n 3), (11, .if_icmp .ge 23), (14, .aload_n 0), (15, .aload_n 2), (16, .invokevirtual 34), (19, .ifCond .eq 15)]),
  (35, [(22, .aload_n 0), (23, .aload_n 1), (24, .aload_n 2), (25, .invokevirtual 38), (28, .iinc 4 1), (31, .goto (-23)), (34, .return_)])]
theorem clo_X0_goOn : zk_okc cX0_goOn cl_X0_goOn = true := by decide +kernel
def rm_X0_goOn : Room := { frames := 3, cells := 0, slots := 0, locals := 68 }
def M_X0_goOn : zk_M := (zk_lkc cl_X0_goOn, zk_in [8], tb_X0, (none, 0, 0), (zk_lka [], fun _ _ => none, zk_in [], zk_in [], zk_lka []))
theorem MO_X0_goOn : zk_MO RX0 cX0_goOn (yX0_goOn.name = "<init>") M_X0_goOn := zk_MO_of clo_X0_goOn rfl tbo_X0
theorem TO_X0_goOn : zk_TO RX0 cX0_goOn rm_X0_goOn M_X0_goOn := ⟨fun pc h => absurd (zk_in_mem h) List.not_mem_nil, fun pc h => absurd (zk_in_mem h) List.not_mem_nil, fun pc tag h => absurd (zk_lka_mem h) List.not_mem_nil⟩
theorem THo_X0_goOn : ∀ pc X, M_X0_goOn.2.2.2.2.1 pc = some X → zk_TH RX0 cX0_goOn rm_X0_goOn pc X := fun pc X h => absurd (zk_lka_mem h) List.not_mem_nil
def cl_X0_ticksTillOut : List (Nat × List (Nat × Instr)) := [(19, [(0, .aload_n 0), (1, .aload_n 1), (2, .invokevirtual 30), (5, .iconst 0), (6, .istore_n 3), (7, .iload_n 3), (8, .ldc 42), (10, .if_icmp .ge 23), (13, .aload_n 0), (14, .aload_n 2), (15, .invokevirtual 34), (18, .ifCond .eq 15)]),
  (35, [(21, .aload_n 0), (22, .aload_n 1), (23, .aload_n 2), (24, .invokevirtual 38), (27, .iinc 3 1), (30, .goto (-23)), (33, .iload_n 3), (34, .ireturn)])]
theorem clo_X0_ticksTillOut : zk_okc cX0_ticksTillOut cl_X0_ticksTillOut = true := by decide +kernel
def rm_X0_ticksTillOut : Room := { frames := 3, cells := 0, slots := 0, locals := 68 }
def M_X0_ticksTillOut : zk_M := (zk_lkc cl_X0_ticksTillOut, zk_in [7], tb_X0, (some (.int), 0, 0), (zk_lka [], fun _ _ => none, zk_in [], zk_in [], zk_lka []))
theorem MO_X0_ticksTillOut : zk_MO RX0 cX0_ticksTillOut (yX0_ticksTillOut.name = "<init>") M_X0_ticksTillOut := zk_MO_of clo_X0_ticksTillOut rfl tbo_X0
theorem TO_X0_ticksTillOut : zk_TO RX0 cX0_ticksTillOut rm_X0_ticksTillOut M_X0_ticksTillOut := ⟨fun pc h => absurd (zk_in_mem h) List.not_mem_nil, fun pc h => absurd (zk_in_mem h) List.not_mem_nil, fun pc tag h => absurd (zk_lka_mem h) List.not_mem_nil⟩
theorem THo_X0_ticksTillOut : ∀ pc X, M_X0_ticksTillOut.2.2.2.2.1 pc = some X → zk_TH RX0 cX0_ticksTillOut rm_X0_ticksTillOut pc X := fun pc X h => absurd (zk_lka_mem h) List.not_mem_nil
def cl_X0_isAnyToGo : List (Nat × List (Nat × Instr)) := [(19, [(0, .iconst 0), (1, .istore_n 2), (2, .iload_n 2), (3, .bipush 20), (5, .if_icmp .ge 30), (8, .aload_n 1), (9, .getfield 43), (12, .iload_n 2), (13, .iaload), (14, .iconst (-1)), (15, .if_icmp .eq 14), (18, .aload_n 0)]),
  (37, [(19, .getfield 9), (22, .iload_n 2), (23, .iaload), (24, .ifCond .le 5), (27, .iconst 1), (28, .ireturn), (29, .iinc 2 1), (32, .goto (-30)), (35, .iconst 0), (36, .ireturn)])]
theorem clo_X0_isAnyToGo : zk_okc cX0_isAnyToGo cl_X0_isAnyToGo = true := by decide +kernel
def rm_X0_isAnyToGo : Room := { frames := 0, cells := 0, slots := 0, locals := 0 }
def M_X0_isAnyToGo : zk_M := (zk_lkc cl_X0_isAnyToGo, zk_in [2], tb_X0, (some (.boolean), 0, 0), (zk_lka [], fun _ _ => none, zk_in [], zk_in [], zk_lka []))
theorem MO_X0_isAnyToGo : zk_MO RX0 cX0_isAnyToGo (yX0_isAnyToGo.name = "<init>") M_X0_isAnyToGo := zk_MO_of clo_X0_isAnyToGo rfl tbo_X0
theorem TO_X0_isAnyToGo : zk_TO RX0 cX0_isAnyToGo rm_X0_isAnyToGo M_X0_isAnyToGo := ⟨fun pc h => absurd (zk_in_mem h) List.not_mem_nil, fun pc h => absurd (zk_in_mem h) List.not_mem_nil, fun pc tag h => absurd (zk_lka_mem h) List.not_mem_nil⟩
theorem THo_X0_isAnyToGo : ∀ pc X, M_X0_isAnyToGo.2.2.2.2.1 pc = some X → zk_TH RX0 cX0_isAnyToGo rm_X0_isAnyToGo pc X := fun pc X h => absurd (zk_lka_mem h) List.not_mem_nil
def cl_X0_doTick : List (Nat × List (Nat × Instr)) := [(18, [(0, .iconst 0), (1, .istore_n 3), (2, .iload_n 3), (3, .bipush 20), (5, .if_icmp .ge 46), (8, .aload_n 1), (9, .aload_n 2), (10, .iload_n 3), (11, .invokestatic 48), (14, .astore 4), (16, .aload_n 0), (17, .getfield 15)]),
  (42, [(20, .iload_n 3), (21, .aload 4), (23, .ifnonnull 7), (26, .iconst 0), (27, .goto 17), (30, .aload_n 0), (31, .getfield 9), (34, .iload_n 3), (35, .iaload), (36, .aload 4), (38, .getfield 52), (41, .invokestatic 57)]),
  (63, [(44, .iastore), (45, .iinc 3 1), (48, .goto (-46)), (51, .iconst 0), (52, .istore_n 3), (53, .iload_n 3), (54, .bipush 20), (56, .if_icmp .ge 78), (59, .aload_n 1), (60, .aload_n 2), (61, .iload_n 3), (62, .invokestatic 48)]),
  (88, [(65, .astore 4), (67, .aload 4), (69, .ifnonnull 7), (72, .aconst_null), (73, .goto 14), (76, .aload 4), (78, .aload_n 1), (79, .getfield 18), (82, .iload_n 3), (83, .aaload), (84, .invokevirtual 63), (87, .astore 5)]),
  (105, [(89, .aload_n 0), (90, .getfield 9), (93, .iload_n 3), (94, .dup2), (95, .iaload), (96, .aload_n 0), (97, .getfield 15), (100, .iload_n 3), (101, .iaload), (102, .isub), (103, .iastore), (104, .aload 5)]),
  (127, [(106, .ifnull 22), (109, .aload_n 0), (110, .getfield 9), (113, .aload 5), (115, .getfield 67), (118, .dup2), (119, .iaload), (120, .aload_n 0), (121, .getfield 15), (124, .iload_n 3), (125, .iaload), (126, .iadd)]),
  (135, [(127, .iastore), (128, .iinc 3 1), (131, .goto (-78)), (134, .return_)])]
theorem clo_X0_doTick : zk_okc cX0_doTick cl_X0_doTick = true := by decide +kernel
def rm_X0_doTick : Room := { frames := 2, cells := 0, slots := 0, locals := 43 }
def M_X0_doTick : zk_M := (zk_lkc cl_X0_doTick, zk_in [2, 53], tb_X0, (none, 0, 0), (zk_lka [], fun _ _ => none, zk_in [], zk_in [], zk_lka [(41, 0)]))
theorem MO_X0_doTick : zk_MO RX0 cX0_doTick (yX0_doTick.name = "<init>") M_X0_doTick := zk_MO_of clo_X0_doTick rfl tbo_X0
theorem TO_X0_doTick : zk_TO RX0 cX0_doTick rm_X0_doTick M_X0_doTick := ⟨fun pc h => absurd (zk_in_mem h) List.not_mem_nil, fun pc h => absurd (zk_in_mem h) List.not_mem_nil, fun pc tag h => by
    have h2 := zk_lka_mem h
    simp only [List.mem_cons, List.not_mem_nil, or_false, Prod.mk.injEq] at h2
    rcases h2 with ⟨rfl, rfl⟩
    exact ⟨57, by decide +kernel, zk_wi 339 (by decide +kernel) rfl, by decide, by decide⟩⟩
theorem THo_X0_doTick : ∀ pc X, M_X0_doTick.2.2.2.2.1 pc = some X → zk_TH RX0 cX0_doTick rm_X0_doTick pc X := fun pc X h => absurd (zk_lka_mem h) List.not_mem_nil
def cl_X0_exitToGo : List (Nat × List (Nat × Instr)) := [(20, [(0, .aload_n 1), (1, .getfield 43), (4, .iload_n 2), (5, .iaload), (6, .iconst (-1)), (7, .if_icmp .ne 7), (10, .aconst_null), (11, .goto 13), (14, .aload_n 0), (15, .aload_n 1), (16, .getfield 70), (19, .iload_n 2)]),
  (25, [(20, .iaload), (21, .invokevirtual 73), (24, .areturn)])]
theorem clo_X0_exitToGo : zk_okc cX0_exitToGo cl_X0_exitToGo = true := by decide +kernel
def rm_X0_exitToGo : Room := { frames := 1, cells := 0, slots := 0, locals := 21 }
def M_X0_exitToGo : zk_M := (zk_lkc cl_X0_exitToGo, zk_in [], tb_X0, (some ((.object "ClerestoryPlan$Exit")), 0, 0), (zk_lka [], fun _ _ => none, zk_in [], zk_in [], zk_lka []))
theorem MO_X0_exitToGo : zk_MO RX0 cX0_exitToGo (yX0_exitToGo.name = "<init>") M_X0_exitToGo := zk_MO_of clo_X0_exitToGo rfl tbo_X0
theorem TO_X0_exitToGo : zk_TO RX0 cX0_exitToGo rm_X0_exitToGo M_X0_exitToGo := ⟨fun pc h => absurd (zk_in_mem h) List.not_mem_nil, fun pc h => absurd (zk_in_mem h) List.not_mem_nil, fun pc tag h => absurd (zk_lka_mem h) List.not_mem_nil⟩
theorem THo_X0_exitToGo : ∀ pc X, M_X0_exitToGo.2.2.2.2.1 pc = some X → zk_TH RX0 cX0_exitToGo rm_X0_exitToGo pc X := fun pc X h => absurd (zk_lka_mem h) List.not_mem_nil
def cl_X0_countInside : List (Nat × List (Nat × Instr)) := [(17, [(0, .iconst 0), (1, .istore_n 1), (2, .iconst 0), (3, .istore_n 2), (4, .iload_n 2), (5, .bipush 20), (7, .if_icmp .ge 18), (10, .iload_n 1), (11, .aload_n 0), (12, .getfield 9), (15, .iload_n 2), (16, .iaload)]),
  (27, [(17, .iadd), (18, .istore_n 1), (19, .iinc 2 1), (22, .goto (-18)), (25, .iload_n 1), (26, .ireturn)])]
theorem clo_X0_countInside : zk_okc cX0_countInside cl_X0_countInside = true := by decide +kernel
def rm_X0_countInside : Room := { frames := 0, cells := 0, slots := 0, locals := 0 }
def M_X0_countInside : zk_M := (zk_lkc cl_X0_countInside, zk_in [4], tb_X0, (some (.int), 0, 0), (zk_lka [], fun _ _ => none, zk_in [], zk_in [], zk_lka []))
theorem MO_X0_countInside : zk_MO RX0 cX0_countInside (yX0_countInside.name = "<init>") M_X0_countInside := zk_MO_of clo_X0_countInside rfl tbo_X0
theorem TO_X0_countInside : zk_TO RX0 cX0_countInside rm_X0_countInside M_X0_countInside := ⟨fun pc h => absurd (zk_in_mem h) List.not_mem_nil, fun pc h => absurd (zk_in_mem h) List.not_mem_nil, fun pc tag h => absurd (zk_lka_mem h) List.not_mem_nil⟩
theorem THo_X0_countInside : ∀ pc X, M_X0_countInside.2.2.2.2.1 pc = some X → zk_TH RX0 cX0_countInside rm_X0_countInside pc X := fun pc X h => absurd (zk_lka_mem h) List.not_mem_nil
def cl_X1_init : List (Nat × List (Nat × Instr)) := [(18, [(0, .aload_n 0), (1, .aload_n 1), (2, .aload_n 2), (3, .aload_n 3), (4, .invokevirtual 3), (7, .aload_n 3), (8, .invokevirtual 9), (11, .iconst 0), (12, .aload_n 3), (13, .getfield 12), (16, .iconst 2), (17, .imul)]),
  (27, [(18, .invokespecial 16), (21, .aload_n 0), (22, .aload_n 3), (23, .putfield 22), (26, .return_)])]
theorem clo_X1_init : zk_okc cX1_init cl_X1_init = true := by decide +kernel
def rm_X1_init : Room := { frames := 2, cells := 0, slots := 0, locals := 46 }
def M_X1_init : zk_M := (zk_lkc cl_X1_init, zk_in [], tbi_X1, (none, 0, 0), (zk_lka [], fun _ _ => none, zk_in [], zk_in [], zk_lka []))
theorem MO_X1_init : zk_MO RX1 cX1_init (yX1_init.name = "<init>") M_X1_init := zk_MO_of clo_X1_init rfl (tbio_X1 rfl)
theorem TO_X1_init : zk_TO RX1 cX1_init rm_X1_init M_X1_init := ⟨fun pc h => absurd (zk_in_mem h) List.not_mem_nil, fun pc h => absurd (zk_in_mem h) List.not_mem_nil, fun pc tag h => absurd (zk_lka_mem h) List.not_mem_nil⟩
theorem THo_X1_init : ∀ pc X, M_X1_init.2.2.2.2.1 pc = some X → zk_TH RX1 cX1_init rm_X1_init pc X := fun pc X h => absurd (zk_lka_mem h) List.not_mem_nil
def cl_X1_isBetween : List (Nat × List (Nat × Instr)) := [(22, [(0, .aload_n 0), (1, .getfield 28), (4, .aload_n 1), (5, .if_acmp .ne 11), (8, .aload_n 0), (9, .getfield 32), (12, .aload_n 2), (13, .if_acmp .eq 19), (16, .aload_n 0), (17, .getfield 28), (20, .aload_n 2), (21, .if_acmp .ne 15)]),
  (38, [(24, .aload_n 0), (25, .getfield 32), (28, .aload_n 1), (29, .if_acmp .ne 7), (32, .iconst 1), (33, .goto 4), (36, .iconst 0), (37, .ireturn)])]
theorem clo_X1_isBetween : zk_okc cX1_isBetween cl_X1_isBetween = true := by decide +kernel
def rm_X1_isBetween : Room := { frames := 0, cells := 0, slots := 0, locals := 0 }
def M_X1_isBetween : zk_M := (zk_lkc cl_X1_isBetween, zk_in [], tb_X1, (some (.boolean), 0, 0), (zk_lka [], fun _ _ => none, zk_in [], zk_in [], zk_lka []))
theorem MO_X1_isBetween : zk_MO RX1 cX1_isBetween (yX1_isBetween.name = "<init>") M_X1_isBetween := zk_MO_of clo_X1_isBetween rfl tbo_X1
theorem TO_X1_isBetween : zk_TO RX1 cX1_isBetween rm_X1_isBetween M_X1_isBetween := ⟨fun pc h => absurd (zk_in_mem h) List.not_mem_nil, fun pc h => absurd (zk_in_mem h) List.not_mem_nil, fun pc tag h => absurd (zk_lka_mem h) List.not_mem_nil⟩
theorem THo_X1_isBetween : ∀ pc X, M_X1_isBetween.2.2.2.2.1 pc = some X → zk_TH RX1 cX1_isBetween rm_X1_isBetween pc X := fun pc X h => absurd (zk_lka_mem h) List.not_mem_nil
def cl_X2_init : List (Nat × List (Nat × Instr)) := [(20, [(0, .aload_n 0), (1, .invokespecial 1), (4, .aload_n 0), (5, .aload_n 1), (6, .putfield 7), (9, .aload_n 0), (10, .aload_n 2), (11, .putfield 13), (14, .aload_n 0), (15, .iload_n 3), (16, .putfield 16), (19, .aload_n 0)]),
  (38, [(20, .iload 4), (22, .putfield 20), (25, .aload_n 0), (26, .iload 5), (28, .putfield 23), (31, .aload_n 0), (32, .iload 6), (34, .putfield 26), (37, .return_)])]
theorem clo_X2_init : zk_okc cX2_init cl_X2_init = true := by decide +kernel
def rm_X2_init : Room := { frames := 1, cells := 0, slots := 0, locals := 20 }
def M_X2_init : zk_M := (zk_lkc cl_X2_init, zk_in [], tbi_X2, (none, 0, 0), (zk_lka [], fun _ _ => none, zk_in [1], zk_in [], zk_lka []))
theorem MO_X2_init : zk_MO RX2 cX2_init (yX2_init.name = "<init>") M_X2_init := zk_MO_of clo_X2_init rfl (tbio_X2 rfl)
theorem TO_X2_init : zk_TO RX2 cX2_init rm_X2_init M_X2_init := ⟨fun pc h => by
    have h2 := zk_in_mem h
    simp only [List.mem_cons, List.not_mem_nil, or_false] at h2
    subst h2
    exact ⟨1, by decide +kernel, zk_wi 679 (by decide +kernel) rfl, by decide, by decide⟩, fun pc h => absurd (zk_in_mem h) List.not_mem_nil, fun pc tag h => absurd (zk_lka_mem h) List.not_mem_nil⟩
theorem THo_X2_init : ∀ pc X, M_X2_init.2.2.2.2.1 pc = some X → zk_TH RX2 cX2_init rm_X2_init pc X := fun pc X h => absurd (zk_lka_mem h) List.not_mem_nil
def cl_X2_isOf : List (Nat × List (Nat × Instr)) := [(22, [(0, .aload_n 0), (1, .getfield 7), (4, .aload_n 1), (5, .if_acmp .eq 11), (8, .aload_n 0), (9, .getfield 13), (12, .aload_n 1), (13, .if_acmp .ne 7), (16, .iconst 1), (17, .goto 4), (20, .iconst 0), (21, .ireturn)])]
theorem clo_X2_isOf : zk_okc cX2_isOf cl_X2_isOf = true := by decide +kernel
def rm_X2_isOf : Room := { frames := 0, cells := 0, slots := 0, locals := 0 }
def M_X2_isOf : zk_M := (zk_lkc cl_X2_isOf, zk_in [], tb_X2, (some (.boolean), 0, 0), (zk_lka [], fun _ _ => none, zk_in [], zk_in [], zk_lka []))
theorem MO_X2_isOf : zk_MO RX2 cX2_isOf (yX2_isOf.name = "<init>") M_X2_isOf := zk_MO_of clo_X2_isOf rfl tbo_X2
theorem TO_X2_isOf : zk_TO RX2 cX2_isOf rm_X2_isOf M_X2_isOf := ⟨fun pc h => absurd (zk_in_mem h) List.not_mem_nil, fun pc h => absurd (zk_in_mem h) List.not_mem_nil, fun pc tag h => absurd (zk_lka_mem h) List.not_mem_nil⟩
theorem THo_X2_isOf : ∀ pc X, M_X2_isOf.2.2.2.2.1 pc = some X → zk_TH RX2 cX2_isOf rm_X2_isOf pc X := fun pc X h => absurd (zk_lka_mem h) List.not_mem_nil
def cl_X2_otherThan : List (Nat × List (Nat × Instr)) := [(20, [(0, .aload_n 0), (1, .getfield 7), (4, .aload_n 1), (5, .if_acmp .ne 10), (8, .aload_n 0), (9, .getfield 13), (12, .goto 7), (15, .aload_n 0), (16, .getfield 7), (19, .areturn)])]
theorem clo_X2_otherThan : zk_okc cX2_otherThan cl_X2_otherThan = true := by decide +kernel
def rm_X2_otherThan : Room := { frames := 0, cells := 0, slots := 0, locals := 0 }
def M_X2_otherThan : zk_M := (zk_lkc cl_X2_otherThan, zk_in [], tb_X2, (some ((.object "ClerestoryPlan$Room")), 0, 0), (zk_lka [], fun _ _ => none, zk_in [], zk_in [], zk_lka []))
theorem MO_X2_otherThan : zk_MO RX2 cX2_otherThan (yX2_otherThan.name = "<init>") M_X2_otherThan := zk_MO_of clo_X2_otherThan rfl tbo_X2
theorem TO_X2_otherThan : zk_TO RX2 cX2_otherThan rm_X2_otherThan M_X2_otherThan := ⟨fun pc h => absurd (zk_in_mem h) List.not_mem_nil, fun pc h => absurd (zk_in_mem h) List.not_mem_nil, fun pc tag h => absurd (zk_lka_mem h) List.not_mem_nil⟩
theorem THo_X2_otherThan : ∀ pc X, M_X2_otherThan.2.2.2.2.1 pc = some X → zk_TH RX2 cX2_otherThan rm_X2_otherThan pc X := fun pc X h => absurd (zk_lka_mem h) List.not_mem_nil
def cl_X2_distanceTo : List (Nat × List (Nat × Instr)) := [(20, [(0, .aload_n 0), (1, .getfield 16), (4, .iload_n 1), (5, .isub), (6, .invokestatic 29), (9, .aload_n 0), (10, .getfield 20), (13, .iload_n 2), (14, .isub), (15, .invokestatic 29), (18, .iadd), (19, .ireturn)])]
theorem clo_X2_distanceTo : zk_okc cX2_distanceTo cl_X2_distanceTo = true := by decide +kernel
def rm_X2_distanceTo : Room := { frames := 1, cells := 0, slots := 0, locals := 23 }
def M_X2_distanceTo : zk_M := (zk_lkc cl_X2_distanceTo, zk_in [], tb_X2, (some (.int), 0, 0), (zk_lka [], fun _ _ => none, zk_in [], zk_in [], zk_lka [(6, 2), (15, 2)]))
theorem MO_X2_distanceTo : zk_MO RX2 cX2_distanceTo (yX2_distanceTo.name = "<init>") M_X2_distanceTo := zk_MO_of clo_X2_distanceTo rfl tbo_X2
theorem TO_X2_distanceTo : zk_TO RX2 cX2_distanceTo rm_X2_distanceTo M_X2_distanceTo := ⟨fun pc h => absurd (zk_in_mem h) List.not_mem_nil, fun pc h => absurd (zk_in_mem h) List.not_mem_nil, fun pc tag h => by
    have h2 := zk_lka_mem h
    simp only [List.mem_cons, List.not_mem_nil, or_false, Prod.mk.injEq] at h2
    rcases h2 with ⟨rfl, rfl⟩ | ⟨rfl, rfl⟩
    · exact ⟨29, by decide +kernel, zk_wi 234 (by decide +kernel) rfl, by decide, by decide⟩
    · exact ⟨29, by decide +kernel, zk_wi 234 (by decide +kernel) rfl, by decide, by decide⟩⟩
theorem THo_X2_distanceTo : ∀ pc X, M_X2_distanceTo.2.2.2.2.1 pc = some X → zk_TH RX2 cX2_distanceTo rm_X2_distanceTo pc X := fun pc X h => absurd (zk_lka_mem h) List.not_mem_nil
def cl_X3_init : List (Nat × List (Nat × Instr)) := [(24, [(0, .aload_n 0), (1, .invokespecial 3), (4, .aload_n 0), (5, .sipush 210), (8, .newarray .int), (10, .putfield 9), (13, .aload_n 0), (14, .sipush 210), (17, .newarray .int), (19, .putfield 15), (22, .aload_n 0), (23, .sipush 210)]),
  (32, [(26, .newarray .int), (28, .putfield 18), (31, .return_)])]
theorem clo_X3_init : zk_okc cX3_init cl_X3_init = true := by decide +kernel
def rm_X3_init : Room := { frames := 1, cells := 3, slots := 630, locals := 20 }
def M_X3_init : zk_M := (zk_lkc cl_X3_init, zk_in [], tbi_X3, (none, 3, 630), (zk_lka [], fun _ _ => none, zk_in [1], zk_in [], zk_lka []))
theorem MO_X3_init : zk_MO RX3 cX3_init (yX3_init.name = "<init>") M_X3_init := zk_MO_of clo_X3_init rfl (tbio_X3 rfl)
theorem TO_X3_init : zk_TO RX3 cX3_init rm_X3_init M_X3_init := ⟨fun pc h => by
    have h2 := zk_in_mem h
    simp only [List.mem_cons, List.not_mem_nil, or_false] at h2
    subst h2
    exact ⟨3, by decide +kernel, zk_wi 149 (by decide +kernel) rfl, by decide, by decide⟩, fun pc h => absurd (zk_in_mem h) List.not_mem_nil, fun pc tag h => absurd (zk_lka_mem h) List.not_mem_nil⟩
theorem THo_X3_init : ∀ pc X, M_X3_init.2.2.2.2.1 pc = some X → zk_TH RX3 cX3_init rm_X3_init pc X := fun pc X h => absurd (zk_lka_mem h) List.not_mem_nil
def cl_X3_tellRule : List (Nat × List (Nat × Instr)) := [(24, [(0, .iload_n 3), (1, .iconst 2), (2, .if_icmp .ne 8), (5, .bipush 40), (7, .goto 16), (10, .iload_n 3), (11, .bipush 8), (13, .if_icmp .ne 8), (16, .bipush 10), (18, .goto 5), (21, .bipush 20), (23, .istore 4)]),
  (45, [(25, .iconst 0), (26, .istore 5), (28, .iload 5), (30, .iload 4), (32, .if_icmp .ge 79), (35, .iload_n 3), (36, .iconst 2), (37, .if_icmp .ne 20), (40, .aload_n 0), (41, .iload_n 3), (42, .iload 5), (44, .aload_n 1)]),
  (68, [(45, .aload_n 2), (46, .iload 5), (48, .invokestatic 21), (51, .invokevirtual 25), (54, .goto 51), (57, .iload_n 3), (58, .bipush 8), (60, .if_icmp .ne 30), (63, .aload_n 0), (64, .iload_n 3), (65, .iload 5), (67, .aload_n 2)]),
  (88, [(68, .getfield 29), (71, .bipush 40), (73, .iload 5), (75, .iadd), (76, .iaload), (77, .aload_n 1), (78, .getfield 34), (81, .iload_n 3), (82, .iaload), (83, .isub), (84, .invokevirtual 25), (87, .goto 18)]),
  (112, [(90, .aload_n 0), (91, .iload_n 3), (92, .iload 5), (94, .aload_n 1), (95, .aload_n 2), (96, .iload_n 3), (97, .iload 5), (99, .invokestatic 39), (102, .invokevirtual 25), (105, .iinc 5 1), (108, .goto (-80)), (111, .return_)])]
theorem clo_X3_tellRule : zk_okc cX3_tellRule cl_X3_tellRule = true := by decide +kernel
def rm_X3_tellRule : Room := { frames := 4, cells := 0, slots := 0, locals := 98 }
def M_X3_tellRule : zk_M := (zk_lkc cl_X3_tellRule, zk_in [28], tb_X3, (none, 0, 0), (zk_lka [], fun _ _ => none, zk_in [], zk_in [], zk_lka []))
theorem MO_X3_tellRule : zk_MO RX3 cX3_tellRule (yX3_tellRule.name = "<init>") M_X3_tellRule := zk_MO_of clo_X3_tellRule rfl tbo_X3
theorem TO_X3_tellRule : zk_TO RX3 cX3_tellRule rm_X3_tellRule M_X3_tellRule := ⟨fun pc h => absurd (zk_in_mem h) List.not_mem_nil, fun pc h => absurd (zk_in_mem h) List.not_mem_nil, fun pc tag h => absurd (zk_lka_mem h) List.not_mem_nil⟩
theorem THo_X3_tellRule : ∀ pc X, M_X3_tellRule.2.2.2.2.1 pc = some X → zk_TH RX3 cX3_tellRule rm_X3_tellRule pc X := fun pc X h => absurd (zk_lka_mem h) List.not_mem_nil
def cl_X3_tell : List (Nat × List (Nat × Instr)) := [(24, [(0, .iload_n 3), (1, .ifCond .le 53), (4, .aload_n 0), (5, .getfield 43), (8, .sipush 210), (11, .if_icmp .ge 43), (14, .aload_n 0), (15, .getfield 9), (18, .aload_n 0), (19, .getfield 43), (22, .iload_n 1), (23, .iastore)]),
  (44, [(24, .aload_n 0), (25, .getfield 15), (28, .aload_n 0), (29, .getfield 43), (32, .iload_n 2), (33, .iastore), (34, .aload_n 0), (35, .getfield 18), (38, .aload_n 0), (39, .getfield 43), (42, .iload_n 3), (43, .iastore)]),
  (55, [(44, .aload_n 0), (45, .dup), (46, .getfield 43), (49, .iconst 1), (50, .iadd), (51, .putfield 43), (54, .return_)])]
theorem clo_X3_tell : zk_okc cX3_tell cl_X3_tell = true := by decide +kernel
def rm_X3_tell : Room := { frames := 0, cells := 0, slots := 0, locals := 0 }
def M_X3_tell : zk_M := (zk_lkc cl_X3_tell, zk_in [], tb_X3, (none, 0, 0), (zk_lka [], fun _ _ => none, zk_in [], zk_in [], zk_lka []))
theorem MO_X3_tell : zk_MO RX3 cX3_tell (yX3_tell.name = "<init>") M_X3_tell := zk_MO_of clo_X3_tell rfl tbo_X3
theorem TO_X3_tell : zk_TO RX3 cX3_tell rm_X3_tell M_X3_tell := ⟨fun pc h => absurd (zk_in_mem h) List.not_mem_nil, fun pc h => absurd (zk_in_mem h) List.not_mem_nil, fun pc tag h => absurd (zk_lka_mem h) List.not_mem_nil⟩
theorem THo_X3_tell : ∀ pc X, M_X3_tell.2.2.2.2.1 pc = some X → zk_TH RX3 cX3_tell rm_X3_tell pc X := fun pc X h => absurd (zk_lka_mem h) List.not_mem_nil
def cl_X3_excessOfDoor : List (Nat × List (Nat × Instr)) := [(20, [(0, .aload_n 0), (1, .getfield 47), (4, .iload_n 2), (5, .aaload), (6, .astore_n 3), (7, .aload_n 3), (8, .ifnonnull 7), (11, .iconst 0), (12, .goto 24), (15, .aload_n 1), (16, .getfield 29), (19, .iload_n 2)]),
  (37, [(20, .iaload), (21, .aload_n 0), (22, .getfield 34), (25, .iconst 2), (26, .iaload), (27, .aload_n 3), (28, .getfield 51), (31, .getfield 57), (34, .imul), (35, .isub), (36, .ireturn)])]
theorem clo_X3_excessOfDoor : zk_okc cX3_excessOfDoor cl_X3_excessOfDoor = true := by decide +kernel
def rm_X3_excessOfDoor : Room := { frames := 0, cells := 0, slots := 0, locals := 0 }
def M_X3_excessOfDoor : zk_M := (zk_lkc cl_X3_excessOfDoor, zk_in [], tb_X3, (some (.int), 0, 0), (zk_lka [], fun _ _ => none, zk_in [], zk_in [], zk_lka []))
theorem MO_X3_excessOfDoor : zk_MO RX3 cX3_excessOfDoor (yX3_excessOfDoor.name = "<init>") M_X3_excessOfDoor := zk_MO_of clo_X3_excessOfDoor rfl tbo_X3
theorem TO_X3_excessOfDoor : zk_TO RX3 cX3_excessOfDoor rm_X3_excessOfDoor M_X3_excessOfDoor := ⟨fun pc h => absurd (zk_in_mem h) List.not_mem_nil, fun pc h => absurd (zk_in_mem h) List.not_mem_nil, fun pc tag h => absurd (zk_lka_mem h) List.not_mem_nil⟩
theorem THo_X3_excessOfDoor : ∀ pc X, M_X3_excessOfDoor.2.2.2.2.1 pc = some X → zk_TH RX3 cX3_excessOfDoor rm_X3_excessOfDoor pc X := fun pc X h => absurd (zk_lka_mem h) List.not_mem_nil
def cl_X3_excessOfRoom : List (Nat × List (Nat × Instr)) := [(20, [(0, .aload_n 0), (1, .getfield 62), (4, .iload_n 3), (5, .aaload), (6, .astore 4), (8, .aload 4), (10, .ifnonnull 5), (13, .iconst 0), (14, .ireturn), (15, .aload_n 0), (16, .getfield 34), (19, .iload_n 2)]),
  (94, [(20, .iaload), (21, .istore 5), (23, .aload 4), (25, .getfield 66), (28, .aload 4), (30, .getfield 71), (33, .imul), (34, .istore 6), (36, .iload_n 2), (37, .tableswitch 201 0 9 #[55, 78, 201, 88, 100, 128, 145, 168, 201, 178]), (92, .aload_n 1), (93, .getfield 74)]),
  (116, [(96, .iload_n 3), (97, .iaload), (98, .iconst (-1)), (99, .if_icmp .ne 14), (102, .aload 4), (104, .getfield 77), (107, .iload 5), (109, .isub), (110, .goto 4), (113, .iconst 0), (114, .ireturn), (115, .aload_n 1)]),
  (136, [(116, .getfield 80), (119, .iload_n 3), (120, .iaload), (121, .iload 5), (123, .isub), (124, .ireturn), (125, .aload 4), (127, .getfield 77), (130, .iload 5), (132, .imul), (133, .iload 6), (135, .isub)]),
  (157, [(136, .ireturn), (137, .aload 4), (139, .getfield 83), (142, .ifCond .ne 21), (145, .iload 6), (147, .iload 5), (149, .imul), (150, .bipush 100), (152, .idiv), (153, .aload_n 0), (154, .aload 4), (156, .invokevirtual 86)]),
  (182, [(159, .isub), (160, .goto 4), (163, .iconst 0), (164, .ireturn), (165, .aload 4), (167, .getfield 66), (170, .aload 4), (172, .getfield 71), (175, .invokestatic 90), (178, .iload 5), (180, .isub), (181, .ireturn)]),
  (205, [(182, .aload_n 0), (183, .aload 4), (185, .invokevirtual 96), (188, .iconst 1), (189, .if_icmp .gt 14), (192, .aload 4), (194, .getfield 77), (197, .iload 5), (199, .isub), (200, .goto 4), (203, .iconst 0), (204, .ireturn)]),
  (225, [(205, .aload_n 1), (206, .getfield 74), (209, .iload_n 3), (210, .iaload), (211, .iload 5), (213, .isub), (214, .ireturn), (215, .aload 4), (217, .getfield 83), (220, .iconst 3), (221, .if_icmp .ne 15), (224, .aload_n 0)]),
  (240, [(225, .aload 4), (227, .invokevirtual 99), (230, .iload 5), (232, .isub), (233, .goto 4), (236, .iconst 0), (237, .ireturn), (238, .iconst 0), (239, .ireturn)])]
theorem clo_X3_excessOfRoom : zk_okc cX3_excessOfRoom cl_X3_excessOfRoom = true := by decide +kernel
def rm_X3_excessOfRoom : Room := { frames := 3, cells := 0, slots := 0, locals := 72 }
def M_X3_excessOfRoom : zk_M := (zk_lkc cl_X3_excessOfRoom, zk_in [], tb_X3, (some (.int), 0, 0), (zk_lka [], fun _ _ => none, zk_in [], zk_in [], zk_lka [(175, 0)]))
theorem MO_X3_excessOfRoom : zk_MO RX3 cX3_excessOfRoom (yX3_excessOfRoom.name = "<init>") M_X3_excessOfRoom := zk_MO_of clo_X3_excessOfRoom rfl tbo_X3
theorem TO_X3_excessOfRoom : zk_TO RX3 cX3_excessOfRoom rm_X3_excessOfRoom M_X3_excessOfRoom := ⟨fun pc h => absurd (zk_in_mem h) List.not_mem_nil, fun pc h => absurd (zk_in_mem h) List.not_mem_nil, fun pc tag h => by
    have h2 := zk_lka_mem h
    simp only [List.mem_cons, List.not_mem_nil, or_false, Prod.mk.injEq] at h2
    rcases h2 with ⟨rfl, rfl⟩
    exact ⟨90, by decide +kernel, zk_wi 295 (by decide +kernel) rfl, by decide, by decide⟩⟩
theorem THo_X3_excessOfRoom : ∀ pc X, M_X3_excessOfRoom.2.2.2.2.1 pc = some X → zk_TH RX3 cX3_excessOfRoom rm_X3_excessOfRoom pc X := fun pc X h => absurd (zk_lka_mem h) List.not_mem_nil
def cl_X3_countOf : List (Nat × List (Nat × Instr)) := [(18, [(0, .iconst 0), (1, .istore_n 2), (2, .iconst 0), (3, .istore_n 3), (4, .iload_n 3), (5, .aload_n 0), (6, .getfield 43), (9, .if_icmp .ge 22), (12, .aload_n 0), (13, .getfield 9), (16, .iload_n 3), (17, .iaload)]),
  (33, [(18, .iload_n 1), (19, .if_icmp .ne 6), (22, .iinc 2 1), (25, .iinc 3 1), (28, .goto (-24)), (31, .iload_n 2), (32, .ireturn)])]
theorem clo_X3_countOf : zk_okc cX3_countOf cl_X3_countOf = true := by decide +kernel
def rm_X3_countOf : Room := { frames := 0, cells := 0, slots := 0, locals := 0 }
def M_X3_countOf : zk_M := (zk_lkc cl_X3_countOf, zk_in [4], tb_X3, (some (.int), 0, 0), (zk_lka [], fun _ _ => none, zk_in [], zk_in [], zk_lka []))
theorem MO_X3_countOf : zk_MO RX3 cX3_countOf (yX3_countOf.name = "<init>") M_X3_countOf := zk_MO_of clo_X3_countOf rfl tbo_X3
theorem TO_X3_countOf : zk_TO RX3 cX3_countOf rm_X3_countOf M_X3_countOf := ⟨fun pc h => absurd (zk_in_mem h) List.not_mem_nil, fun pc h => absurd (zk_in_mem h) List.not_mem_nil, fun pc tag h => absurd (zk_lka_mem h) List.not_mem_nil⟩
theorem THo_X3_countOf : ∀ pc X, M_X3_countOf.2.2.2.2.1 pc = some X → zk_TH RX3 cX3_countOf rm_X3_countOf pc X := fun pc X h => absurd (zk_lka_mem h) List.not_mem_nil
def cl_X4_init : List (Nat × List (Nat × Instr)) := [(22, [(0, .aload_n 0), (1, .invokespecial 1), (4, .aload_n 0), (5, .iload_n 1), (6, .putfield 7), (9, .aload_n 0), (10, .iload 4), (12, .putfield 13), (15, .aload_n 0), (16, .iload 4), (18, .ifCond .eq 7), (21, .iload_n 2)]),
  (45, [(22, .goto 4), (25, .iload_n 3), (26, .putfield 17), (29, .aload_n 0), (30, .iload 4), (32, .ifCond .eq 7), (35, .iload_n 3), (36, .goto 4), (39, .iload_n 2), (40, .putfield 20), (43, .aload_n 0), (44, .iload 5)]),
  (50, [(46, .putfield 23), (49, .return_)])]
theorem clo_X4_init : zk_okc cX4_init cl_X4_init = true := by decide +kernel
def rm_X4_init : Room := { frames := 1, cells := 0, slots := 0, locals := 20 }
def M_X4_init : zk_M := (zk_lkc cl_X4_init, zk_in [], tbi_X4, (none, 0, 0), (zk_lka [], fun _ _ => none, zk_in [1], zk_in [], zk_lka []))
theorem MO_X4_init : zk_MO RX4 cX4_init (yX4_init.name = "<init>") M_X4_init := zk_MO_of clo_X4_init rfl (tbio_X4 rfl)
theorem TO_X4_init : zk_TO RX4 cX4_init rm_X4_init M_X4_init := ⟨fun pc h => by
    have h2 := zk_in_mem h
    simp only [List.mem_cons, List.not_mem_nil, or_false] at h2
    subst h2
    exact ⟨1, by decide +kernel, zk_wi 606 (by decide +kernel) rfl, by decide, by decide⟩, fun pc h => absurd (zk_in_mem h) List.not_mem_nil, fun pc tag h => absurd (zk_lka_mem h) List.not_mem_nil⟩
theorem THo_X4_init : ∀ pc X, M_X4_init.2.2.2.2.1 pc = some X → zk_TH RX4 cX4_init rm_X4_init pc X := fun pc X h => absurd (zk_lka_mem h) List.not_mem_nil
def cl_X4_isOnLineOf : List (Nat × List (Nat × Instr)) := [(24, [(0, .aload_n 1), (1, .getfield 26), (4, .aload_n 0), (5, .getfield 7), (8, .if_icmp .ne 37), (11, .aload_n 0), (12, .getfield 17), (15, .aload_n 1), (16, .aload_n 0), (17, .getfield 13), (20, .invokevirtual 29), (23, .if_icmp .eq 18)]),
  (47, [(26, .aload_n 0), (27, .getfield 17), (30, .aload_n 1), (31, .aload_n 0), (32, .getfield 13), (35, .invokevirtual 33), (38, .if_icmp .ne 7), (41, .iconst 1), (42, .goto 4), (45, .iconst 0), (46, .ireturn)])]
theorem clo_X4_isOnLineOf : zk_okc cX4_isOnLineOf cl_X4_isOnLineOf = true := by decide +kernel
def rm_X4_isOnLineOf : Room := { frames := 1, cells := 0, slots := 0, locals := 21 }
def M_X4_isOnLineOf : zk_M := (zk_lkc cl_X4_isOnLineOf, zk_in [], tb_X4, (some (.boolean), 0, 0), (zk_lka [], fun _ _ => none, zk_in [], zk_in [], zk_lka []))
theorem MO_X4_isOnLineOf : zk_MO RX4 cX4_isOnLineOf (yX4_isOnLineOf.name = "<init>") M_X4_isOnLineOf := zk_MO_of clo_X4_isOnLineOf rfl tbo_X4
theorem TO_X4_isOnLineOf : zk_TO RX4 cX4_isOnLineOf rm_X4_isOnLineOf M_X4_isOnLineOf := ⟨fun pc h => absurd (zk_in_mem h) List.not_mem_nil, fun pc h => absurd (zk_in_mem h) List.not_mem_nil, fun pc tag h => absurd (zk_lka_mem h) List.not_mem_nil⟩
theorem THo_X4_isOnLineOf : ∀ pc X, M_X4_isOnLineOf.2.2.2.2.1 pc = some X → zk_TH RX4 cX4_isOnLineOf rm_X4_isOnLineOf pc X := fun pc X h => absurd (zk_lka_mem h) List.not_mem_nil
def cl_X4_isOnSideOf : List (Nat × List (Nat × Instr)) := [(22, [(0, .aload_n 0), (1, .aload_n 1), (2, .invokevirtual 36), (5, .ifCond .eq 58), (8, .aload_n 0), (9, .getfield 20), (12, .aload_n 1), (13, .aload_n 0), (14, .getfield 13), (17, .ifCond .ne 7), (20, .iconst 1), (21, .goto 4)]),
  (48, [(24, .iconst 0), (25, .invokevirtual 29), (28, .if_icmp .lt 35), (31, .aload_n 0), (32, .getfield 20), (35, .aload_n 1), (36, .aload_n 0), (37, .getfield 13), (40, .ifCond .ne 7), (43, .iconst 1), (44, .goto 4), (47, .iconst 0)]),
  (65, [(48, .invokevirtual 33), (51, .aload_n 0), (52, .getfield 23), (55, .isub), (56, .if_icmp .gt 7), (59, .iconst 1), (60, .goto 4), (63, .iconst 0), (64, .ireturn)])]
theorem clo_X4_isOnSideOf : zk_okc cX4_isOnSideOf cl_X4_isOnSideOf = true := by decide +kernel
def rm_X4_isOnSideOf : Room := { frames := 2, cells := 0, slots := 0, locals := 42 }
def M_X4_isOnSideOf : zk_M := (zk_lkc cl_X4_isOnSideOf, zk_in [], tb_X4, (some (.boolean), 0, 0), (zk_lka [], fun _ _ => none, zk_in [], zk_in [], zk_lka []))
theorem MO_X4_isOnSideOf : zk_MO RX4 cX4_isOnSideOf (yX4_isOnSideOf.name = "<init>") M_X4_isOnSideOf := zk_MO_of clo_X4_isOnSideOf rfl tbo_X4
theorem TO_X4_isOnSideOf : zk_TO RX4 cX4_isOnSideOf rm_X4_isOnSideOf M_X4_isOnSideOf := ⟨fun pc h => absurd (zk_in_mem h) List.not_mem_nil, fun pc h => absurd (zk_in_mem h) List.not_mem_nil, fun pc tag h => absurd (zk_lka_mem h) List.not_mem_nil⟩
theorem THo_X4_isOnSideOf : ∀ pc X, M_X4_isOnSideOf.2.2.2.2.1 pc = some X → zk_TH RX4 cX4_isOnSideOf rm_X4_isOnSideOf pc X := fun pc X h => absurd (zk_lka_mem h) List.not_mem_nil
def cl_X4_touchesSideOf : List (Nat × List (Nat × Instr)) := [(22, [(0, .aload_n 0), (1, .aload_n 1), (2, .invokevirtual 36), (5, .ifCond .eq 58), (8, .aload_n 0), (9, .getfield 20), (12, .aload_n 1), (13, .aload_n 0), (14, .getfield 13), (17, .ifCond .ne 7), (20, .iconst 1), (21, .goto 4)]),
  (46, [(24, .iconst 0), (25, .invokevirtual 33), (28, .if_icmp .ge 35), (31, .aload_n 0), (32, .getfield 20), (35, .aload_n 0), (36, .getfield 23), (39, .iadd), (40, .aload_n 1), (41, .aload_n 0), (42, .getfield 13), (45, .ifCond .ne 7)]),
  (65, [(48, .iconst 1), (49, .goto 4), (52, .iconst 0), (53, .invokevirtual 29), (56, .if_icmp .le 7), (59, .iconst 1), (60, .goto 4), (63, .iconst 0), (64, .ireturn)])]
theorem clo_X4_touchesSideOf : zk_okc cX4_touchesSideOf cl_X4_touchesSideOf = true := by decide +kernel
def rm_X4_touchesSideOf : Room := { frames := 2, cells := 0, slots := 0, locals := 42 }
def M_X4_touchesSideOf : zk_M := (zk_lkc cl_X4_touchesSideOf, zk_in [], tb_X4, (some (.boolean), 0, 0), (zk_lka [], fun _ _ => none, zk_in [], zk_in [], zk_lka []))
theorem MO_X4_touchesSideOf : zk_MO RX4 cX4_touchesSideOf (yX4_touchesSideOf.name = "<init>") M_X4_touchesSideOf := zk_MO_of clo_X4_touchesSideOf rfl tbo_X4
theorem TO_X4_touchesSideOf : zk_TO RX4 cX4_touchesSideOf rm_X4_touchesSideOf M_X4_touchesSideOf := ⟨fun pc h => absurd (zk_in_mem h) List.not_mem_nil, fun pc h => absurd (zk_in_mem h) List.not_mem_nil, fun pc tag h => absurd (zk_lka_mem h) List.not_mem_nil⟩
theorem THo_X4_touchesSideOf : ∀ pc X, M_X4_touchesSideOf.2.2.2.2.1 pc = some X → zk_TH RX4 cX4_touchesSideOf rm_X4_touchesSideOf pc X := fun pc X h => absurd (zk_lka_mem h) List.not_mem_nil
def cl_X4_sharesWith : List (Nat × List (Nat × Instr)) := [(24, [(0, .aload_n 0), (1, .getfield 7), (4, .aload_n 1), (5, .getfield 7), (8, .if_icmp .ne 61), (11, .aload_n 0), (12, .getfield 13), (15, .aload_n 1), (16, .getfield 13), (19, .if_icmp .ne 50), (22, .aload_n 0), (23, .getfield 17)]),
  (50, [(26, .aload_n 1), (27, .getfield 17), (30, .if_icmp .ne 39), (33, .aload_n 0), (34, .getfield 20), (37, .aload_n 1), (38, .getfield 20), (41, .aload_n 1), (42, .getfield 23), (45, .iadd), (46, .if_icmp .ge 23), (49, .aload_n 1)]),
  (71, [(50, .getfield 20), (53, .aload_n 0), (54, .getfield 20), (57, .aload_n 0), (58, .getfield 23), (61, .iadd), (62, .if_icmp .ge 7), (65, .iconst 1), (66, .goto 4), (69, .iconst 0), (70, .ireturn)])]
theorem clo_X4_sharesWith : zk_okc cX4_sharesWith cl_X4_sharesWith = true := by decide +kernel
def rm_X4_sharesWith : Room := { frames := 0, cells := 0, slots := 0, locals := 0 }
def M_X4_sharesWith : zk_M := (zk_lkc cl_X4_sharesWith, zk_in [], tb_X4, (some (.boolean), 0, 0), (zk_lka [], fun _ _ => none, zk_in [], zk_in [], zk_lka []))
theorem MO_X4_sharesWith : zk_MO RX4 cX4_sharesWith (yX4_sharesWith.name = "<init>") M_X4_sharesWith := zk_MO_of clo_X4_sharesWith rfl tbo_X4
theorem TO_X4_sharesWith : zk_TO RX4 cX4_sharesWith rm_X4_sharesWith M_X4_sharesWith := ⟨fun pc h => absurd (zk_in_mem h) List.not_mem_nil, fun pc h => absurd (zk_in_mem h) List.not_mem_nil, fun pc tag h => absurd (zk_lka_mem h) List.not_mem_nil⟩
theorem THo_X4_sharesWith : ∀ pc X, M_X4_sharesWith.2.2.2.2.1 pc = some X → zk_TH RX4 cX4_sharesWith rm_X4_sharesWith pc X := fun pc X h => absurd (zk_lka_mem h) List.not_mem_nil
def cl_X4_middleX : List (Nat × List (Nat × Instr)) := [(22, [(0, .aload_n 0), (1, .getfield 13), (4, .ifCond .eq 12), (7, .iconst 2), (8, .aload_n 0), (9, .getfield 17), (12, .imul), (13, .goto 14), (16, .iconst 2), (17, .aload_n 0), (18, .getfield 20), (21, .imul)]),
  (28, [(22, .aload_n 0), (23, .getfield 23), (26, .iadd), (27, .ireturn)])]
theorem clo_X4_middleX : zk_okc cX4_middleX cl_X4_middleX = true := by decide +kernel
def rm_X4_middleX : Room := { frames := 0, cells := 0, slots := 0, locals := 0 }
def M_X4_middleX : zk_M := (zk_lkc cl_X4_middleX, zk_in [], tb_X4, (some (.int), 0, 0), (zk_lka [], fun _ _ => none, zk_in [], zk_in [], zk_lka []))
theorem MO_X4_middleX : zk_MO RX4 cX4_middleX (yX4_middleX.name = "<init>") M_X4_middleX := zk_MO_of clo_X4_middleX rfl tbo_X4
theorem TO_X4_middleX : zk_TO RX4 cX4_middleX rm_X4_middleX M_X4_middleX := ⟨fun pc h => absurd (zk_in_mem h) List.not_mem_nil, fun pc h => absurd (zk_in_mem h) List.not_mem_nil, fun pc tag h => absurd (zk_lka_mem h) List.not_mem_nil⟩
theorem THo_X4_middleX : ∀ pc X, M_X4_middleX.2.2.2.2.1 pc = some X → zk_TH RX4 cX4_middleX rm_X4_middleX pc X := fun pc X h => absurd (zk_lka_mem h) List.not_mem_nil
def cl_X4_middleY : List (Nat × List (Nat × Instr)) := [(22, [(0, .aload_n 0), (1, .getfield 13), (4, .ifCond .eq 17), (7, .iconst 2), (8, .aload_n 0), (9, .getfield 20), (12, .imul), (13, .aload_n 0), (14, .getfield 23), (17, .iadd), (18, .goto 9), (21, .iconst 2)]),
  (28, [(22, .aload_n 0), (23, .getfield 17), (26, .imul), (27, .ireturn)])]
theorem clo_X4_middleY : zk_okc cX4_middleY cl_X4_middleY = true := by decide +kernel
def rm_X4_middleY : Room := { frames := 0, cells := 0, slots := 0, locals := 0 }
def M_X4_middleY : zk_M := (zk_lkc cl_X4_middleY, zk_in [], tb_X4, (some (.int), 0, 0), (zk_lka [], fun _ _ => none, zk_in [], zk_in [], zk_lka []))
theorem MO_X4_middleY : zk_MO RX4 cX4_middleY (yX4_middleY.name = "<init>") M_X4_middleY := zk_MO_of clo_X4_middleY rfl tbo_X4
theorem TO_X4_middleY : zk_TO RX4 cX4_middleY rm_X4_middleY M_X4_middleY := ⟨fun pc h => absurd (zk_in_mem h) List.not_mem_nil, fun pc h => absurd (zk_in_mem h) List.not_mem_nil, fun pc tag h => absurd (zk_lka_mem h) List.not_mem_nil⟩
theorem THo_X4_middleY : ∀ pc X, M_X4_middleY.2.2.2.2.1 pc = some X → zk_TH RX4 cX4_middleY rm_X4_middleY pc X := fun pc X h => absurd (zk_lka_mem h) List.not_mem_nil
def cl_X5_init : List (Nat × List (Nat × Instr)) := [(24, [(0, .aload_n 0), (1, .invokespecial 3), (4, .aload_n 0), (5, .bipush 20), (7, .anewarray 9), (10, .putfield 11), (13, .aload_n 0), (14, .bipush 40), (16, .anewarray 17), (19, .putfield 19), (22, .aload_n 0), (23, .bipush 40)]),
  (54, [(25, .anewarray 23), (28, .putfield 25), (31, .aload_n 0), (32, .bipush 10), (34, .anewarray 29), (37, .putfield 31), (40, .aload_n 0), (41, .getstatic 35), (44, .invokevirtual 39), (47, .checkcast 40), (50, .putfield 44), (53, .return_)])]
theorem clo_X5_init : zk_okc cX5_init cl_X5_init = true := by decide +kernel
def rm_X5_init : Room := { frames := 1, cells := 5, slots := 120, locals := 22 }
def M_X5_init : zk_M := (zk_lkc cl_X5_init, zk_in [], tbi_X5, (none, 5, 120), (zk_lka [], fun _ _ => none, zk_in [1], zk_in [41], zk_lka []))
theorem MO_X5_init : zk_MO RX5 cX5_init (yX5_init.name = "<init>") M_X5_init := zk_MO_of clo_X5_init rfl (tbio_X5 rfl)
theorem TO_X5_init : zk_TO RX5 cX5_init rm_X5_init M_X5_init := ⟨fun pc h => by
    have h2 := zk_in_mem h
    simp only [List.mem_cons, List.not_mem_nil, or_false] at h2
    subst h2
    exact ⟨3, by decide +kernel, zk_wi 33 (by decide +kernel) rfl, by decide, by decide⟩, fun pc h => by
    have h2 := zk_in_mem h
    simp only [List.mem_cons, List.not_mem_nil, or_false] at h2
    subst h2
    exact ⟨rfl, by decide +kernel, by decide +kernel, by decide +kernel, by decide, by decide⟩, fun pc tag h => absurd (zk_lka_mem h) List.not_mem_nil⟩
theorem THo_X5_init : ∀ pc X, M_X5_init.2.2.2.2.1 pc = some X → zk_TH RX5 cX5_init rm_X5_init pc X := fun pc X h => absurd (zk_lka_mem h) List.not_mem_nil
def cl_X5_exitAt : List (Nat × List (Nat × Instr)) := [(20, [(0, .iload_n 1), (1, .ifCond .lt 9), (4, .iload_n 1), (5, .bipush 50), (7, .if_icmp .lt 5), (10, .aconst_null), (11, .areturn), (12, .iload_n 1), (13, .bipush 40), (15, .if_icmp .ge 10), (18, .aload_n 0), (19, .getfield 19)]),
  (35, [(22, .iload_n 1), (23, .aaload), (24, .areturn), (25, .aload_n 0), (26, .getfield 31), (29, .iload_n 1), (30, .bipush 40), (32, .isub), (33, .aaload), (34, .areturn)])]
theorem clo_X5_exitAt : zk_okc cX5_exitAt cl_X5_exitAt = true := by decide +kernel
def rm_X5_exitAt : Room := { frames := 0, cells := 0, slots := 0, locals := 0 }
def M_X5_exitAt : zk_M := (zk_lkc cl_X5_exitAt, zk_in [], tb_X5, (some ((.object "ClerestoryPlan$Exit")), 0, 0), (zk_lka [], fun _ _ => none, zk_in [], zk_in [], zk_lka []))
theorem MO_X5_exitAt : zk_MO RX5 cX5_exitAt (yX5_exitAt.name = "<init>") M_X5_exitAt := zk_MO_of clo_X5_exitAt rfl tbo_X5
theorem TO_X5_exitAt : zk_TO RX5 cX5_exitAt rm_X5_exitAt M_X5_exitAt := ⟨fun pc h => absurd (zk_in_mem h) List.not_mem_nil, fun pc h => absurd (zk_in_mem h) List.not_mem_nil, fun pc tag h => absurd (zk_lka_mem h) List.not_mem_nil⟩
theorem THo_X5_exitAt : ∀ pc X, M_X5_exitAt.2.2.2.2.1 pc = some X → zk_TH RX5 cX5_exitAt rm_X5_exitAt pc X := fun pc X h => absurd (zk_lka_mem h) List.not_mem_nil
def cl_X5_countExits : List (Nat × List (Nat × Instr)) := [(21, [(0, .iconst 0), (1, .istore_n 3), (2, .iload_n 1), (3, .istore 4), (5, .iload 4), (7, .iload_n 2), (8, .if_icmp .ge 21), (11, .aload_n 0), (12, .iload 4), (14, .invokevirtual 47), (17, .ifnull 6), (20, .iinc 3 1)]),
  (31, [(23, .iinc 4 1), (26, .goto (-21)), (29, .iload_n 3), (30, .ireturn)])]
theorem clo_X5_countExits : zk_okc cX5_countExits cl_X5_countExits = true := by decide +kernel
def rm_X5_countExits : Room := { frames := 1, cells := 0, slots := 0, locals := 21 }
def M_X5_countExits : zk_M := (zk_lkc cl_X5_countExits, zk_in [5], tb_X5, (some (.int), 0, 0), (zk_lka [], fun _ _ => none, zk_in [], zk_in [], zk_lka []))
theorem MO_X5_countExits : zk_MO RX5 cX5_countExits (yX5_countExits.name = "<init>") M_X5_countExits := zk_MO_of clo_X5_countExits rfl tbo_X5
theorem TO_X5_countExits : zk_TO RX5 cX5_countExits rm_X5_countExits M_X5_countExits := ⟨fun pc h => absurd (zk_in_mem h) List.not_mem_nil, fun pc h => absurd (zk_in_mem h) List.not_mem_nil, fun pc tag h => absurd (zk_lka_mem h) List.not_mem_nil⟩
theorem THo_X5_countExits : ∀ pc X, M_X5_countExits.2.2.2.2.1 pc = some X → zk_TH RX5 cX5_countExits rm_X5_countExits pc X := fun pc X h => absurd (zk_lka_mem h) List.not_mem_nil
def cl_X5_countOpen : List (Nat × List (Nat × Instr)) := [(18, [(0, .iconst 0), (1, .istore_n 2), (2, .iconst 0), (3, .istore_n 3), (4, .iload_n 3), (5, .bipush 50), (7, .if_icmp .ge 41), (10, .aload_n 0), (11, .iload_n 3), (12, .invokevirtual 47), (15, .astore 4), (17, .aload 4)]),
  (49, [(19, .ifnull 23), (22, .aload 4), (24, .getfield 51), (27, .ifCond .ne 15), (30, .aload 4), (32, .aload_n 1), (33, .invokevirtual 57), (36, .ifCond .eq 6), (39, .iinc 2 1), (42, .iinc 3 1), (45, .goto (-41)), (48, .iload_n 2)]),
  (50, [(49, .ireturn)])]
theorem clo_X5_countOpen : zk_okc cX5_countOpen cl_X5_countOpen = true := by decide +kernel
def rm_X5_countOpen : Room := { frames := 1, cells := 0, slots := 0, locals := 21 }
def M_X5_countOpen : zk_M := (zk_lkc cl_X5_countOpen, zk_in [4], tb_X5, (some (.int), 0, 0), (zk_lka [], fun _ _ => none, zk_in [], zk_in [], zk_lka []))
theorem MO_X5_countOpen : zk_MO RX5 cX5_countOpen (yX5_countOpen.name = "<init>") M_X5_countOpen := zk_MO_of clo_X5_countOpen rfl tbo_X5
theorem TO_X5_countOpen : zk_TO RX5 cX5_countOpen rm_X5_countOpen M_X5_countOpen := ⟨fun pc h => absurd (zk_in_mem h) List.not_mem_nil, fun pc h => absurd (zk_in_mem h) List.not_mem_nil, fun pc tag h => absurd (zk_lka_mem h) List.not_mem_nil⟩
theorem THo_X5_countOpen : ∀ pc X, M_X5_countOpen.2.2.2.2.1 pc = some X → zk_TH RX5 cX5_countOpen rm_X5_countOpen pc X := fun pc X h => absurd (zk_lka_mem h) List.not_mem_nil
def cl_X5_windowsWide : List (Nat × List (Nat × Instr)) := [(17, [(0, .iconst 0), (1, .istore_n 2), (2, .aload_n 0), (3, .getfield 25), (6, .astore_n 3), (7, .aload_n 3), (8, .arraylength), (9, .istore 4), (11, .iconst 0), (12, .istore 5), (14, .iload 5), (16, .iload 4)]),
  (42, [(18, .if_icmp .ge 40), (21, .aload_n 3), (22, .iload 5), (24, .aaload), (25, .astore 6), (27, .aload 6), (29, .ifnull 23), (32, .aload 6), (34, .getfield 61), (37, .aload_n 1), (38, .if_acmp .ne 14), (41, .iload_n 2)]),
  (60, [(42, .aload 6), (44, .getfield 65), (47, .getfield 69), (50, .iadd), (51, .istore_n 2), (52, .iinc 5 1), (55, .goto (-41)), (58, .iload_n 2), (59, .ireturn)])]
theorem clo_X5_windowsWide : zk_okc cX5_windowsWide cl_X5_windowsWide = true := by decide +kernel
def rm_X5_windowsWide : Room := { frames := 0, cells := 0, slots := 0, locals := 0 }
def M_X5_windowsWide : zk_M := (zk_lkc cl_X5_windowsWide, zk_in [14], tb_X5, (some (.int), 0, 0), (zk_lka [], fun _ _ => none, zk_in [], zk_in [], zk_lka []))
theorem MO_X5_windowsWide : zk_MO RX5 cX5_windowsWide (yX5_windowsWide.name = "<init>") M_X5_windowsWide := zk_MO_of clo_X5_windowsWide rfl tbo_X5
theorem TO_X5_windowsWide : zk_TO RX5 cX5_windowsWide rm_X5_windowsWide M_X5_windowsWide := ⟨fun pc h => absurd (zk_in_mem h) List.not_mem_nil, fun pc h => absurd (zk_in_mem h) List.not_mem_nil, fun pc tag h => absurd (zk_lka_mem h) List.not_mem_nil⟩
theorem THo_X5_windowsWide : ∀ pc X, M_X5_windowsWide.2.2.2.2.1 pc = some X → zk_TH RX5 cX5_windowsWide rm_X5_windowsWide pc X := fun pc X h => absurd (zk_lka_mem h) List.not_mem_nil
def cl_X5_unitsAboveDwellings : List (Nat × List (Nat × Instr)) := [(17, [(0, .iconst 0), (1, .istore_n 2), (2, .aload_n 0), (3, .getfield 11), (6, .astore_n 3), (7, .aload_n 3), (8, .arraylength), (9, .istore 4), (11, .iconst 0), (12, .istore 5), (14, .iload 5), (16, .iload 4)]),
  (43, [(18, .if_icmp .ge 51), (21, .aload_n 3), (22, .iload 5), (24, .aaload), (25, .astore 6), (27, .aload 6), (29, .ifnull 34), (32, .aload 6), (34, .getfield 75), (37, .ifCond .ne 26), (40, .aload 6), (42, .getfield 78)]),
  (64, [(45, .aload_n 1), (46, .getfield 78), (49, .iconst 1), (50, .isub), (51, .if_icmp .ne 12), (54, .iload_n 2), (55, .aload_n 1), (56, .aload 6), (58, .invokevirtual 81), (61, .iadd), (62, .istore_n 2), (63, .iinc 5 1)]),
  (71, [(66, .goto (-52)), (69, .iload_n 2), (70, .ireturn)])]
theorem clo_X5_unitsAboveDwellings : zk_okc cX5_unitsAboveDwellings cl_X5_unitsAboveDwellings = true := by decide +kernel
def rm_X5_unitsAboveDwellings : Room := { frames := 2, cells := 0, slots := 0, locals := 46 }
def M_X5_unitsAboveDwellings : zk_M := (zk_lkc cl_X5_unitsAboveDwellings, zk_in [14], tb_X5, (some (.int), 0, 0), (zk_lka [], fun _ _ => none, zk_in [], zk_in [], zk_lka []))
theorem MO_X5_unitsAboveDwellings : zk_MO RX5 cX5_unitsAboveDwellings (yX5_unitsAboveDwellings.name = "<init>") M_X5_unitsAboveDwellings := zk_MO_of clo_X5_unitsAboveDwellings rfl tbo_X5
theorem TO_X5_unitsAboveDwellings : zk_TO RX5 cX5_unitsAboveDwellings rm_X5_unitsAboveDwellings M_X5_unitsAboveDwellings := ⟨fun pc h => absurd (zk_in_mem h) List.not_mem_nil, fun pc h => absurd (zk_in_mem h) List.not_mem_nil, fun pc tag h => absurd (zk_lka_mem h) List.not_mem_nil⟩
theorem THo_X5_unitsAboveDwellings : ∀ pc X, M_X5_unitsAboveDwellings.2.2.2.2.1 pc = some X → zk_TH RX5 cX5_unitsAboveDwellings rm_X5_unitsAboveDwellings pc X := fun pc X h => absurd (zk_lka_mem h) List.not_mem_nil
def cl_X5_isInTheWay : List (Nat × List (Nat × Instr)) := [(18, [(0, .aload_n 0), (1, .getfield 11), (4, .astore_n 2), (5, .aload_n 2), (6, .arraylength), (7, .istore_n 3), (8, .iconst 0), (9, .istore 4), (11, .iload 4), (13, .iload_n 3), (14, .if_icmp .ge 43), (17, .aload_n 2)]),
  (43, [(18, .iload 4), (20, .aaload), (21, .astore 5), (23, .aload 5), (25, .ifnull 26), (28, .aload 5), (30, .getfield 78), (33, .aload_n 1), (34, .getfield 78), (37, .if_icmp .ne 14), (40, .aload 5), (42, .aload_n 1)]),
  (59, [(43, .invokevirtual 81), (46, .ifCond .le 5), (49, .iconst 1), (50, .ireturn), (51, .iinc 4 1), (54, .goto (-43)), (57, .iconst 0), (58, .ireturn)])]
theorem clo_X5_isInTheWay : zk_okc cX5_isInTheWay cl_X5_isInTheWay = true := by decide +kernel
def rm_X5_isInTheWay : Room := { frames := 2, cells := 0, slots := 0, locals := 46 }
def M_X5_isInTheWay : zk_M := (zk_lkc cl_X5_isInTheWay, zk_in [11], tb_X5, (some (.boolean), 0, 0), (zk_lka [], fun _ _ => none, zk_in [], zk_in [], zk_lka []))
theorem MO_X5_isInTheWay : zk_MO RX5 cX5_isInTheWay (yX5_isInTheWay.name = "<init>") M_X5_isInTheWay := zk_MO_of clo_X5_isInTheWay rfl tbo_X5
theorem TO_X5_isInTheWay : zk_TO RX5 cX5_isInTheWay rm_X5_isInTheWay M_X5_isInTheWay := ⟨fun pc h => absurd (zk_in_mem h) List.not_mem_nil, fun pc h => absurd (zk_in_mem h) List.not_mem_nil, fun pc tag h => absurd (zk_lka_mem h) List.not_mem_nil⟩
theorem THo_X5_isInTheWay : ∀ pc X, M_X5_isInTheWay.2.2.2.2.1 pc = some X → zk_TH RX5 cX5_isInTheWay rm_X5_isInTheWay pc X := fun pc X h => absurd (zk_lka_mem h) List.not_mem_nil
def cl_X5_hasPlaceFor : List (Nat × List (Nat × Instr)) := [(18, [(0, .aload_n 1), (1, .aload_n 2), (2, .invokevirtual 85), (5, .ifCond .ne 5), (8, .iconst 0), (9, .ireturn), (10, .aload_n 3), (11, .ifnonnull 20), (14, .aload_n 0), (15, .aload_n 1), (16, .aload_n 2), (17, .invokevirtual 88)]),
  (44, [(20, .ifCond .ne 7), (23, .iconst 1), (24, .goto 12), (27, .iconst 0), (28, .goto 8), (31, .aload_n 1), (32, .aload_n 3), (33, .invokevirtual 85), (36, .istore 4), (38, .iload 4), (40, .ifCond .eq 15), (43, .aload_n 0)]),
  (57, [(44, .aload_n 1), (45, .invokevirtual 92), (48, .ifCond .eq 7), (51, .iconst 1), (52, .goto 4), (55, .iconst 0), (56, .ireturn)])]
theorem clo_X5_hasPlaceFor : zk_okc cX5_hasPlaceFor cl_X5_hasPlaceFor = true := by decide +kernel
def rm_X5_hasPlaceFor : Room := { frames := 4, cells := 0, slots := 0, locals := 89 }
def M_X5_hasPlaceFor : zk_M := (zk_lkc cl_X5_hasPlaceFor, zk_in [], tb_X5, (some (.boolean), 0, 0), (zk_lka [], fun _ _ => none, zk_in [], zk_in [], zk_lka []))
theorem MO_X5_hasPlaceFor : zk_MO RX5 cX5_hasPlaceFor (yX5_hasPlaceFor.name = "<init>") M_X5_hasPlaceFor := zk_MO_of clo_X5_hasPlaceFor rfl tbo_X5
theorem TO_X5_hasPlaceFor : zk_TO RX5 cX5_hasPlaceFor rm_X5_hasPlaceFor M_X5_hasPlaceFor := ⟨fun pc h => absurd (zk_in_mem h) List.not_mem_nil, fun pc h => absurd (zk_in_mem h) List.not_mem_nil, fun pc tag h => absurd (zk_lka_mem h) List.not_mem_nil⟩
theorem THo_X5_hasPlaceFor : ∀ pc X, M_X5_hasPlaceFor.2.2.2.2.1 pc = some X → zk_TH RX5 cX5_hasPlaceFor rm_X5_hasPlaceFor pc X := fun pc X h => absurd (zk_lka_mem h) List.not_mem_nil
def cl_X5_touchesOthers : List (Nat × List (Nat × Instr)) := [(20, [(0, .aload_n 0), (1, .getfield 11), (4, .astore_n 3), (5, .aload_n 3), (6, .arraylength), (7, .istore 4), (9, .iconst 0), (10, .istore 5), (12, .iload 5), (14, .iload 4), (16, .if_icmp .ge 37), (19, .aload_n 3)]),
  (43, [(20, .iload 5), (22, .aaload), (23, .astore 6), (25, .aload 6), (27, .ifnull 20), (30, .aload 6), (32, .aload_n 2), (33, .if_acmp .eq 14), (36, .aload_n 1), (37, .aload 6), (39, .invokevirtual 96), (42, .ifCond .eq 5)]),
  (55, [(45, .iconst 1), (46, .ireturn), (47, .iinc 5 1), (50, .goto (-38)), (53, .iconst 0), (54, .ireturn)])]
theorem clo_X5_touchesOthers : zk_okc cX5_touchesOthers cl_X5_touchesOthers = true := by decide +kernel
def rm_X5_touchesOthers : Room := { frames := 3, cells := 0, slots := 0, locals := 63 }
def M_X5_touchesOthers : zk_M := (zk_lkc cl_X5_touchesOthers, zk_in [12], tb_X5, (some (.boolean), 0, 0), (zk_lka [], fun _ _ => none, zk_in [], zk_in [], zk_lka []))
theorem MO_X5_touchesOthers : zk_MO RX5 cX5_touchesOthers (yX5_touchesOthers.name = "<init>") M_X5_touchesOthers := zk_MO_of clo_X5_touchesOthers rfl tbo_X5
theorem TO_X5_touchesOthers : zk_TO RX5 cX5_touchesOthers rm_X5_touchesOthers M_X5_touchesOthers := ⟨fun pc h => absurd (zk_in_mem h) List.not_mem_nil, fun pc h => absurd (zk_in_mem h) List.not_mem_nil, fun pc tag h => absurd (zk_lka_mem h) List.not_mem_nil⟩
theorem THo_X5_touchesOthers : ∀ pc X, M_X5_touchesOthers.2.2.2.2.1 pc = some X → zk_TH RX5 cX5_touchesOthers rm_X5_touchesOthers pc X := fun pc X h => absurd (zk_lka_mem h) List.not_mem_nil
def cl_X5_isFree : List (Nat × List (Nat × Instr)) := [(18, [(0, .aload_n 0), (1, .getfield 19), (4, .astore_n 2), (5, .aload_n 2), (6, .arraylength), (7, .istore_n 3), (8, .iconst 0), (9, .istore 4), (11, .iload 4), (13, .iload_n 3), (14, .if_icmp .ge 34), (17, .aload_n 2)]),
  (42, [(18, .iload 4), (20, .aaload), (21, .astore 5), (23, .aload 5), (25, .ifnull 17), (28, .aload 5), (30, .getfield 99), (33, .aload_n 1), (34, .invokevirtual 100), (37, .ifCond .eq 5), (40, .iconst 0), (41, .ireturn)]),
  (62, [(42, .iinc 4 1), (45, .goto (-34)), (48, .aload_n 0), (49, .getfield 25), (52, .astore_n 2), (53, .aload_n 2), (54, .arraylength), (55, .istore_n 3), (56, .iconst 0), (57, .istore 4), (59, .iload 4), (61, .iload_n 3)]),
  (86, [(62, .if_icmp .ge 34), (65, .aload_n 2), (66, .iload 4), (68, .aaload), (69, .astore 5), (71, .aload 5), (73, .ifnull 17), (76, .aload 5), (78, .getfield 65), (81, .aload_n 1), (82, .invokevirtual 100), (85, .ifCond .eq 5)]),
  (98, [(88, .iconst 0), (89, .ireturn), (90, .iinc 4 1), (93, .goto (-34)), (96, .iconst 1), (97, .ireturn)])]
theorem clo_X5_isFree : zk_okc cX5_isFree cl_X5_isFree = true := by decide +kernel
def rm_X5_isFree : Room := { frames := 1, cells := 0, slots := 0, locals := 21 }
def M_X5_isFree : zk_M := (zk_lkc cl_X5_isFree, zk_in [11, 59], tb_X5, (some (.boolean), 0, 0), (zk_lka [], fun _ _ => none, zk_in [], zk_in [], zk_lka []))
theorem MO_X5_isFree : zk_MO RX5 cX5_isFree (yX5_isFree.name = "<init>") M_X5_isFree := zk_MO_of clo_X5_isFree rfl tbo_X5
theorem TO_X5_isFree : zk_TO RX5 cX5_isFree rm_X5_isFree M_X5_isFree := ⟨fun pc h => absurd (zk_in_mem h) List.not_mem_nil, fun pc h => absurd (zk_in_mem h) List.not_mem_nil, fun pc tag h => absurd (zk_lka_mem h) List.not_mem_nil⟩
theorem THo_X5_isFree : ∀ pc X, M_X5_isFree.2.2.2.2.1 pc = some X → zk_TH RX5 cX5_isFree rm_X5_isFree pc X := fun pc X h => absurd (zk_lka_mem h) List.not_mem_nil
def cl_X5_dropAllOf : List (Nat × List (Nat × Instr)) := [(17, [(0, .iconst 0), (1, .istore_n 2), (2, .iconst 0), (3, .istore_n 3), (4, .iload_n 3), (5, .bipush 40), (7, .if_icmp .ge 41), (10, .aload_n 0), (11, .getfield 19), (14, .iload_n 3), (15, .aaload), (16, .ifnull 26)]),
  (39, [(19, .aload_n 0), (20, .getfield 19), (23, .iload_n 3), (24, .aaload), (25, .aload_n 1), (26, .invokevirtual 103), (29, .ifCond .eq 13), (32, .aload_n 0), (33, .getfield 19), (36, .iload_n 3), (37, .aconst_null), (38, .aastore)]),
  (62, [(39, .iinc 2 1), (42, .iinc 3 1), (45, .goto (-41)), (48, .iconst 0), (49, .istore_n 3), (50, .iload_n 3), (51, .bipush 40), (53, .if_icmp .ge 41), (56, .aload_n 0), (57, .getfield 25), (60, .iload_n 3), (61, .aaload)]),
  (84, [(62, .ifnull 26), (65, .aload_n 0), (66, .getfield 25), (69, .iload_n 3), (70, .aaload), (71, .getfield 61), (74, .aload_n 1), (75, .if_acmp .ne 13), (78, .aload_n 0), (79, .getfield 25), (82, .iload_n 3), (83, .aconst_null)]),
  (107, [(84, .aastore), (85, .iinc 2 1), (88, .iinc 3 1), (91, .goto (-41)), (94, .iconst 0), (95, .istore_n 3), (96, .iload_n 3), (97, .bipush 10), (99, .if_icmp .ge 41), (102, .aload_n 0), (103, .getfield 31), (106, .iload_n 3)]),
  (129, [(107, .aaload), (108, .ifnull 26), (111, .aload_n 0), (112, .getfield 31), (115, .iload_n 3), (116, .aaload), (117, .aload_n 1), (118, .invokevirtual 104), (121, .ifCond .eq 13), (124, .aload_n 0), (125, .getfield 31), (128, .iload_n 3)]),
  (142, [(129, .aconst_null), (130, .aastore), (131, .iinc 2 1), (134, .iinc 3 1), (137, .goto (-41)), (140, .iload_n 2), (141, .ireturn)])]
theorem clo_X5_dropAllOf : zk_okc cX5_dropAllOf cl_X5_dropAllOf = true := by decide +kernel
def rm_X5_dropAllOf : Room := { frames := 1, cells := 0, slots := 0, locals := 21 }
def M_X5_dropAllOf : zk_M := (zk_lkc cl_X5_dropAllOf, zk_in [4, 50, 96], tb_X5, (some (.int), 0, 0), (zk_lka [], fun _ _ => none, zk_in [], zk_in [], zk_lka []))
theorem MO_X5_dropAllOf : zk_MO RX5 cX5_dropAllOf (yX5_dropAllOf.name = "<init>") M_X5_dropAllOf := zk_MO_of clo_X5_dropAllOf rfl tbo_X5
theorem TO_X5_dropAllOf : zk_TO RX5 cX5_dropAllOf rm_X5_dropAllOf M_X5_dropAllOf := ⟨fun pc h => absurd (zk_in_mem h) List.not_mem_nil, fun pc h => absurd (zk_in_mem h) List.not_mem_nil, fun pc tag h => absurd (zk_lka_mem h) List.not_mem_nil⟩
theorem THo_X5_dropAllOf : ∀ pc X, M_X5_dropAllOf.2.2.2.2.1 pc = some X → zk_TH RX5 cX5_dropAllOf rm_X5_dropAllOf pc X := fun pc X h => absurd (zk_lka_mem h) List.not_mem_nil
def cl_X6_init : List (Nat × List (Nat × Instr)) := [(20, [(0, .aload_n 0), (1, .invokespecial 1), (4, .aload_n 0), (5, .iload_n 1), (6, .putfield 7), (9, .aload_n 0), (10, .iload_n 2), (11, .putfield 13), (14, .aload_n 0), (15, .iload_n 3), (16, .putfield 16), (19, .aload_n 0)]),
  (44, [(20, .iload 4), (22, .putfield 19), (25, .aload_n 0), (26, .iload 5), (28, .putfield 22), (31, .aload_n 0), (32, .iload 6), (34, .putfield 25), (37, .aload_n 0), (38, .iload 7), (40, .putfield 28), (43, .return_)])]
theorem clo_X6_init : zk_okc cX6_init cl_X6_init = true := by decide +kernel
def rm_X6_init : Room := { frames := 1, cells := 0, slots := 0, locals := 20 }
def M_X6_init : zk_M := (zk_lkc cl_X6_init, zk_in [], tbi_X6, (none, 0, 0), (zk_lka [], fun _ _ => none, zk_in [1], zk_in [], zk_lka []))
theorem MO_X6_init : zk_MO RX6 cX6_init (yX6_init.name = "<init>") M_X6_init := zk_MO_of clo_X6_init rfl (tbio_X6 rfl)
theorem TO_X6_init : zk_TO RX6 cX6_init rm_X6_init M_X6_init := ⟨fun pc h => by
    have h2 := zk_in_mem h
    simp only [List.mem_cons, List.not_mem_nil, or_false] at h2
    subst h2
    exact ⟨1, by decide +kernel, zk_wi 492 (by decide +kernel) rfl, by decide, by decide⟩, fun pc h => absurd (zk_in_mem h) List.not_mem_nil, fun pc tag h => absurd (zk_lka_mem h) List.not_mem_nil⟩
theorem THo_X6_init : ∀ pc X, M_X6_init.2.2.2.2.1 pc = some X → zk_TH RX6 cX6_init rm_X6_init pc X := fun pc X h => absurd (zk_lka_mem h) List.not_mem_nil
def cl_X6_lowest : List (Nat × List (Nat × Instr)) := [(16, [(0, .iload_n 1), (1, .ifCond .eq 10), (4, .aload_n 0), (5, .getfield 16), (8, .goto 7), (11, .aload_n 0), (12, .getfield 19), (15, .ireturn)])]
theorem clo_X6_lowest : zk_okc cX6_lowest cl_X6_lowest = true := by decide +kernel
def rm_X6_lowest : Room := { frames := 0, cells := 0, slots := 0, locals := 0 }
def M_X6_lowest : zk_M := (zk_lkc cl_X6_lowest, zk_in [], tb_X6, (some (.int), 0, 0), (zk_lka [], fun _ _ => none, zk_in [], zk_in [], zk_lka []))
theorem MO_X6_lowest : zk_MO RX6 cX6_lowest (yX6_lowest.name = "<init>") M_X6_lowest := zk_MO_of clo_X6_lowest rfl tbo_X6
theorem TO_X6_lowest : zk_TO RX6 cX6_lowest rm_X6_lowest M_X6_lowest := ⟨fun pc h => absurd (zk_in_mem h) List.not_mem_nil, fun pc h => absurd (zk_in_mem h) List.not_mem_nil, fun pc tag h => absurd (zk_lka_mem h) List.not_mem_nil⟩
theorem THo_X6_lowest : ∀ pc X, M_X6_lowest.2.2.2.2.1 pc = some X → zk_TH RX6 cX6_lowest rm_X6_lowest pc X := fun pc X h => absurd (zk_lka_mem h) List.not_mem_nil
def cl_X6_highest : List (Nat × List (Nat × Instr)) := [(22, [(0, .iload_n 1), (1, .ifCond .eq 15), (4, .aload_n 0), (5, .getfield 16), (8, .aload_n 0), (9, .getfield 22), (12, .iadd), (13, .goto 12), (16, .aload_n 0), (17, .getfield 19), (20, .aload_n 0), (21, .getfield 25)]),
  (26, [(24, .iadd), (25, .ireturn)])]
theorem clo_X6_highest : zk_okc cX6_highest cl_X6_highest = true := by decide +kernel
def rm_X6_highest : Room := { frames := 0, cells := 0, slots := 0, locals := 0 }
def M_X6_highest : zk_M := (zk_lkc cl_X6_highest, zk_in [], tb_X6, (some (.int), 0, 0), (zk_lka [], fun _ _ => none, zk_in [], zk_in [], zk_lka []))
theorem MO_X6_highest : zk_MO RX6 cX6_highest (yX6_highest.name = "<init>") M_X6_highest := zk_MO_of clo_X6_highest rfl tbo_X6
theorem TO_X6_highest : zk_TO RX6 cX6_highest rm_X6_highest M_X6_highest := ⟨fun pc h => absurd (zk_in_mem h) List.not_mem_nil, fun pc h => absurd (zk_in_mem h) List.not_mem_nil, fun pc tag h => absurd (zk_lka_mem h) List.not_mem_nil⟩
theorem THo_X6_highest : ∀ pc X, M_X6_highest.2.2.2.2.1 pc = some X → zk_TH RX6 cX6_highest rm_X6_highest pc X := fun pc X h => absurd (zk_lka_mem h) List.not_mem_nil
def cl_X6_hasUnit : List (Nat × List (Nat × Instr)) := [(22, [(0, .iload_n 1), (1, .aload_n 0), (2, .getfield 16), (5, .if_icmp .lt 41), (8, .iload_n 1), (9, .aload_n 0), (10, .getfield 16), (13, .aload_n 0), (14, .getfield 22), (17, .iadd), (18, .if_icmp .ge 28), (21, .iload_n 2)]),
  (44, [(22, .aload_n 0), (23, .getfield 19), (26, .if_icmp .lt 20), (29, .iload_n 2), (30, .aload_n 0), (31, .getfield 19), (34, .aload_n 0), (35, .getfield 25), (38, .iadd), (39, .if_icmp .ge 7), (42, .iconst 1), (43, .goto 4)]),
  (48, [(46, .iconst 0), (47, .ireturn)])]
theorem clo_X6_hasUnit : zk_okc cX6_hasUnit cl_X6_hasUnit = true := by decide +kernel
def rm_X6_hasUnit : Room := { frames := 0, cells := 0, slots := 0, locals := 0 }
def M_X6_hasUnit : zk_M := (zk_lkc cl_X6_hasUnit, zk_in [], tb_X6, (some (.boolean), 0, 0), (zk_lka [], fun _ _ => none, zk_in [], zk_in [], zk_lka []))
theorem MO_X6_hasUnit : zk_MO RX6 cX6_hasUnit (yX6_hasUnit.name = "<init>") M_X6_hasUnit := zk_MO_of clo_X6_hasUnit rfl tbo_X6
theorem TO_X6_hasUnit : zk_TO RX6 cX6_hasUnit rm_X6_hasUnit M_X6_hasUnit := ⟨fun pc h => absurd (zk_in_mem h) List.not_mem_nil, fun pc h => absurd (zk_in_mem h) List.not_mem_nil, fun pc tag h => absurd (zk_lka_mem h) List.not_mem_nil⟩
theorem THo_X6_hasUnit : ∀ pc X, M_X6_hasUnit.2.2.2.2.1 pc = some X → zk_TH RX6 cX6_hasUnit rm_X6_hasUnit pc X := fun pc X h => absurd (zk_lka_mem h) List.not_mem_nil
def cl_X6_hasPoint : List (Nat × List (Nat × Instr)) := [(22, [(0, .iload_n 1), (1, .aload_n 0), (2, .getfield 16), (5, .if_icmp .lt 41), (8, .iload_n 1), (9, .aload_n 0), (10, .getfield 16), (13, .aload_n 0), (14, .getfield 22), (17, .iadd), (18, .if_icmp .gt 28), (21, .iload_n 2)]),
  (44, [(22, .aload_n 0), (23, .getfield 19), (26, .if_icmp .lt 20), (29, .iload_n 2), (30, .aload_n 0), (31, .getfield 19), (34, .aload_n 0), (35, .getfield 25), (38, .iadd), (39, .if_icmp .gt 7), (42, .iconst 1), (43, .goto 4)]),
  (48, [(46, .iconst 0), (47, .ireturn)])]
theorem clo_X6_hasPoint : zk_okc cX6_hasPoint cl_X6_hasPoint = true := by decide +kernel
def rm_X6_hasPoint : Room := { frames := 0, cells := 0, slots := 0, locals := 0 }
def M_X6_hasPoint : zk_M := (zk_lkc cl_X6_hasPoint, zk_in [], tb_X6, (some (.boolean), 0, 0), (zk_lka [], fun _ _ => none, zk_in [], zk_in [], zk_lka []))
theorem MO_X6_hasPoint : zk_MO RX6 cX6_hasPoint (yX6_hasPoint.name = "<init>") M_X6_hasPoint := zk_MO_of clo_X6_hasPoint rfl tbo_X6
theorem TO_X6_hasPoint : zk_TO RX6 cX6_hasPoint rm_X6_hasPoint M_X6_hasPoint := ⟨fun pc h => absurd (zk_in_mem h) List.not_mem_nil, fun pc h => absurd (zk_in_mem h) List.not_mem_nil, fun pc tag h => absurd (zk_lka_mem h) List.not_mem_nil⟩
theorem THo_X6_hasPoint : ∀ pc X, M_X6_hasPoint.2.2.2.2.1 pc = some X → zk_TH RX6 cX6_hasPoint rm_X6_hasPoint pc X := fun pc X h => absurd (zk_lka_mem h) List.not_mem_nil
def cl_X6_unitsInCommon : List (Nat × List (Nat × Instr)) := [(22, [(0, .aload_n 0), (1, .getfield 16), (4, .aload_n 0), (5, .getfield 22), (8, .iadd), (9, .aload_n 1), (10, .getfield 16), (13, .aload_n 1), (14, .getfield 22), (17, .iadd), (18, .invokestatic 31), (21, .aload_n 0)]),
  (44, [(22, .getfield 16), (25, .aload_n 1), (26, .getfield 16), (29, .invokestatic 37), (32, .isub), (33, .istore_n 2), (34, .aload_n 0), (35, .getfield 19), (38, .aload_n 0), (39, .getfield 25), (42, .iadd), (43, .aload_n 1)]),
  (68, [(44, .getfield 19), (47, .aload_n 1), (48, .getfield 25), (51, .iadd), (52, .invokestatic 31), (55, .aload_n 0), (56, .getfield 19), (59, .aload_n 1), (60, .getfield 19), (63, .invokestatic 37), (66, .isub), (67, .istore_n 3)]),
  (84, [(68, .iload_n 2), (69, .ifCond .le 13), (72, .iload_n 3), (73, .ifCond .le 9), (76, .iload_n 2), (77, .iload_n 3), (78, .imul), (79, .goto 4), (82, .iconst 0), (83, .ireturn)])]
theorem clo_X6_unitsInCommon : zk_okc cX6_unitsInCommon cl_X6_unitsInCommon = true := by decide +kernel
def rm_X6_unitsInCommon : Room := { frames := 1, cells := 0, slots := 0, locals := 23 }
def M_X6_unitsInCommon : zk_M := (zk_lkc cl_X6_unitsInCommon, zk_in [], tb_X6, (some (.int), 0, 0), (zk_lka [], fun _ _ => none, zk_in [], zk_in [], zk_lka [(18, 0), (29, 1), (52, 0), (63, 1)]))
theorem MO_X6_unitsInCommon : zk_MO RX6 cX6_unitsInCommon (yX6_unitsInCommon.name = "<init>") M_X6_unitsInCommon := zk_MO_of clo_X6_unitsInCommon rfl tbo_X6
theorem TO_X6_unitsInCommon : zk_TO RX6 cX6_unitsInCommon rm_X6_unitsInCommon M_X6_unitsInCommon := ⟨fun pc h => absurd (zk_in_mem h) List.not_mem_nil, fun pc h => absurd (zk_in_mem h) List.not_mem_nil, fun pc tag h => by
    have h2 := zk_lka_mem h
    simp only [List.mem_cons, List.not_mem_nil, or_false, Prod.mk.injEq] at h2
    rcases h2 with ⟨rfl, rfl⟩ | ⟨rfl, rfl⟩ | ⟨rfl, rfl⟩ | ⟨rfl, rfl⟩
    · exact ⟨31, by decide +kernel, zk_wi 316 (by decide +kernel) rfl, by decide, by decide⟩
    · exact ⟨37, by decide +kernel, zk_wi 317 (by decide +kernel) rfl, by decide, by decide⟩
    · exact ⟨31, by decide +kernel, zk_wi 316 (by decide +kernel) rfl, by decide, by decide⟩
    · exact ⟨37, by decide +kernel, zk_wi 317 (by decide +kernel) rfl, by decide, by decide⟩⟩
theorem THo_X6_unitsInCommon : ∀ pc X, M_X6_unitsInCommon.2.2.2.2.1 pc = some X → zk_TH RX6 cX6_unitsInCommon rm_X6_unitsInCommon pc X := fun pc X h => absurd (zk_lka_mem h) List.not_mem_nil
def cl_X7_init : List (Nat × List (Nat × Instr)) := [(14, [(0, .aload_n 0), (1, .aload_n 1), (2, .aload_n 2), (3, .iconst 2), (4, .iload_n 3), (5, .imul), (6, .iconst 2), (7, .iload 4), (9, .imul), (10, .bipush 20), (12, .iconst 3), (13, .invokespecial 3)]),
  (17, [(16, .return_)])]
theorem clo_X7_init : zk_okc cX7_init cl_X7_init = true := by decide +kernel
def rm_X7_init : Room := { frames := 2, cells := 0, slots := 0, locals := 46 }
def M_X7_init : zk_M := (zk_lkc cl_X7_init, zk_in [], tbi_X7, (none, 0, 0), (zk_lka [], fun _ _ => none, zk_in [], zk_in [], zk_lka []))
theorem MO_X7_init : zk_MO RX7 cX7_init (yX7_init.name = "<init>") M_X7_init := zk_MO_of clo_X7_init rfl (tbio_X7 rfl)
theorem TO_X7_init : zk_TO RX7 cX7_init rm_X7_init M_X7_init := ⟨fun pc h => absurd (zk_in_mem h) List.not_mem_nil, fun pc h => absurd (zk_in_mem h) List.not_mem_nil, fun pc tag h => absurd (zk_lka_mem h) List.not_mem_nil⟩
theorem THo_X7_init : ∀ pc X, M_X7_init.2.2.2.2.1 pc = some X → zk_TH RX7 cX7_init rm_X7_init pc X := fun pc X h => absurd (zk_lka_mem h) List.not_mem_nil
def cl_X8_init : List (Nat × List (Nat × Instr)) := [(22, [(0, .aload_n 0), (1, .invokespecial 3), (4, .aload_n 0), (5, .bipush 50), (7, .newarray .int), (9, .putfield 9), (12, .aload_n 0), (13, .bipush 50), (15, .newarray .int), (17, .putfield 15), (20, .aload_n 0), (21, .bipush 50)]),
  (46, [(23, .newarray .int), (25, .putfield 18), (28, .aload_n 0), (29, .bipush 20), (31, .newarray .int), (33, .putfield 21), (36, .aload_n 0), (37, .bipush 20), (39, .newarray .int), (41, .putfield 24), (44, .aload_n 0), (45, .bipush 20)]),
  (61, [(47, .newarray .int), (49, .putfield 27), (52, .aload_n 0), (53, .bipush 20), (55, .newarray .int), (57, .putfield 30), (60, .return_)])]
theorem clo_X8_init : zk_okc cX8_init cl_X8_init = true := by decide +kernel
def rm_X8_init : Room := { frames := 1, cells := 7, slots := 230, locals := 20 }
def M_X8_init : zk_M := (zk_lkc cl_X8_init, zk_in [], tbi_X8, (none, 7, 230), (zk_lka [], fun _ _ => none, zk_in [1], zk_in [], zk_lka []))
theorem MO_X8_init : zk_MO RX8 cX8_init (yX8_init.name = "<init>") M_X8_init := zk_MO_of clo_X8_init rfl (tbio_X8 rfl)
theorem TO_X8_init : zk_TO RX8 cX8_init rm_X8_init M_X8_init := ⟨fun pc h => by
    have h2 := zk_in_mem h
    simp only [List.mem_cons, List.not_mem_nil, or_false] at h2
    subst h2
    exact ⟨3, by decide +kernel, zk_wi 95 (by decide +kernel) rfl, by decide, by decide⟩, fun pc h => absurd (zk_in_mem h) List.not_mem_nil, fun pc tag h => absurd (zk_lka_mem h) List.not_mem_nil⟩
theorem THo_X8_init : ∀ pc X, M_X8_init.2.2.2.2.1 pc = some X → zk_TH RX8 cX8_init rm_X8_init pc X := fun pc X h => absurd (zk_lka_mem h) List.not_mem_nil
def cl_X8_reckonExits : List (Nat × List (Nat × Instr)) := [(17, [(0, .iconst 0), (1, .istore_n 2), (2, .iload_n 2), (3, .bipush 50), (5, .if_icmp .ge 23), (8, .aload_n 0), (9, .getfield 9), (12, .iload_n 2), (13, .iconst (-1)), (14, .iastore), (15, .aload_n 0), (16, .getfield 15)]),
  (37, [(19, .iload_n 2), (20, .iconst (-1)), (21, .iastore), (22, .iinc 2 1), (25, .goto (-23)), (28, .iconst 1), (29, .istore_n 2), (30, .iconst 0), (31, .istore_n 3), (32, .iload_n 2), (33, .ifCond .eq 68), (36, .iload_n 3)]),
  (58, [(37, .bipush 100), (39, .if_icmp .gt 62), (42, .iconst 0), (43, .istore_n 2), (44, .iconst 0), (45, .istore 4), (47, .iload 4), (49, .bipush 50), (51, .if_icmp .ge 44), (54, .aload_n 1), (55, .iload 4), (57, .invokevirtual 33)]),
  (85, [(60, .astore 5), (62, .aload 5), (64, .ifnull 25), (67, .aload 5), (69, .getfield 39), (72, .ifCond .ne 17), (75, .aload_n 0), (76, .aload_n 1), (77, .iload 4), (79, .aload 5), (81, .invokevirtual 45), (84, .ifCond .eq 5)]),
  (102, [(87, .iconst 1), (88, .istore_n 2), (89, .iinc 4 1), (92, .goto (-45)), (95, .iinc 3 1), (98, .goto (-66)), (101, .return_)])]
theorem clo_X8_reckonExits : zk_okc cX8_reckonExits cl_X8_reckonExits = true := by decide +kernel
def rm_X8_reckonExits : Room := { frames := 4, cells := 0, slots := 0, locals := 100 }
def M_X8_reckonExits : zk_M := (zk_lkc cl_X8_reckonExits, zk_in [2, 32, 47], tb_X8, (none, 0, 0), (zk_lka [], fun _ _ => none, zk_in [], zk_in [], zk_lka []))
theorem MO_X8_reckonExits : zk_MO RX8 cX8_reckonExits (yX8_reckonExits.name = "<init>") M_X8_reckonExits := zk_MO_of clo_X8_reckonExits rfl tbo_X8
theorem TO_X8_reckonExits : zk_TO RX8 cX8_reckonExits rm_X8_reckonExits M_X8_reckonExits := ⟨fun pc h => absurd (zk_in_mem h) List.not_mem_nil, fun pc h => absurd (zk_in_mem h) List.not_mem_nil, fun pc tag h => absurd (zk_lka_mem h) List.not_mem_nil⟩
theorem THo_X8_reckonExits : ∀ pc X, M_X8_reckonExits.2.2.2.2.1 pc = some X → zk_TH RX8 cX8_reckonExits rm_X8_reckonExits pc X := fun pc X h => absurd (zk_lka_mem h) List.not_mem_nil
def cl_X8_shorten : List (Nat × List (Nat × Instr)) := [(20, [(0, .aload_n 3), (1, .getfield 49), (4, .ifnonnull 7), (7, .iconst 0), (8, .goto 14), (11, .aload_n 0), (12, .aload_n 1), (13, .iload_n 2), (14, .aload_n 3), (15, .aload_n 3), (16, .getfield 49), (19, .invokevirtual 53)]),
  (41, [(22, .istore 4), (24, .aload_n 3), (25, .getfield 49), (28, .ifnonnull 7), (31, .iconst (-1)), (32, .goto 14), (35, .aload_n 0), (36, .aload_n 1), (37, .iload_n 2), (38, .aload_n 3), (39, .aload_n 3), (40, .getfield 57)]),
  (66, [(43, .invokevirtual 53), (46, .istore 5), (48, .iload 4), (50, .aload_n 0), (51, .getfield 9), (54, .iload_n 2), (55, .iaload), (56, .invokestatic 60), (59, .ifCond .ne 17), (62, .iload 5), (64, .aload_n 0), (65, .getfield 15)]),
  (89, [(68, .iload_n 2), (69, .iaload), (70, .invokestatic 60), (73, .ifCond .eq 7), (76, .iconst 1), (77, .goto 4), (80, .iconst 0), (81, .istore 6), (83, .aload_n 0), (84, .getfield 9), (87, .iload_n 2), (88, .iload 4)]),
  (102, [(90, .iastore), (91, .aload_n 0), (92, .getfield 15), (95, .iload_n 2), (96, .iload 5), (98, .iastore), (99, .iload 6), (101, .ireturn)])]
theorem clo_X8_shorten : zk_okc cX8_shorten cl_X8_shorten = true := by decide +kernel
def rm_X8_shorten : Room := { frames := 3, cells := 0, slots := 0, locals := 74 }
def M_X8_shorten : zk_M := (zk_lkc cl_X8_shorten, zk_in [], tb_X8, (some (.boolean), 0, 0), (zk_lka [], fun _ _ => none, zk_in [], zk_in [], zk_lka []))
theorem MO_X8_shorten : zk_MO RX8 cX8_shorten (yX8_shorten.name = "<init>") M_X8_shorten := zk_MO_of clo_X8_shorten rfl tbo_X8
theorem TO_X8_shorten : zk_TO RX8 cX8_shorten rm_X8_shorten M_X8_shorten := ⟨fun pc h => absurd (zk_in_mem h) List.not_mem_nil, fun pc h => absurd (zk_in_mem h) List.not_mem_nil, fun pc tag h => absurd (zk_lka_mem h) List.not_mem_nil⟩
theorem THo_X8_shorten : ∀ pc X, M_X8_shorten.2.2.2.2.1 pc = some X → zk_TH RX8 cX8_shorten rm_X8_shorten pc X := fun pc X h => absurd (zk_lka_mem h) List.not_mem_nil
def cl_X8_wayOn : List (Nat × List (Nat × Instr)) := [(22, [(0, .iconst (-1)), (1, .istore 5), (3, .iconst 0), (4, .istore 6), (6, .iload 6), (8, .bipush 50), (10, .if_icmp .ge 91), (13, .aload_n 1), (14, .iload 6), (16, .invokevirtual 33), (19, .astore 7), (21, .aload 7)]),
  (48, [(23, .ifnull 72), (26, .iload 6), (28, .iload_n 2), (29, .if_icmp .ne 6), (32, .goto 63), (35, .aload_n 0), (36, .iload 6), (38, .aload 7), (40, .aload 4), (42, .invokevirtual 64), (45, .istore 8), (47, .iload 8)]),
  (72, [(49, .iconst (-1)), (50, .if_icmp .eq 45), (53, .aload_n 3), (54, .getfield 68), (57, .aload 7), (59, .aload_n 3), (60, .getfield 72), (63, .aload_n 3), (64, .getfield 75), (67, .invokevirtual 78), (70, .iadd), (71, .iload 8)]),
  (99, [(73, .iadd), (74, .istore 9), (76, .iload 9), (78, .iload 5), (80, .invokestatic 60), (83, .ifCond .eq 8), (86, .iload 9), (88, .goto 5), (91, .iload 5), (93, .istore 5), (95, .iinc 6 1), (98, .goto (-92))]),
  (104, [(101, .iload 5), (103, .ireturn)])]
theorem clo_X8_wayOn : zk_okc cX8_wayOn cl_X8_wayOn = true := by decide +kernel
def rm_X8_wayOn : Room := { frames := 2, cells := 0, slots := 0, locals := 45 }
def M_X8_wayOn : zk_M := (zk_lkc cl_X8_wayOn, zk_in [6], tb_X8, (some (.int), 0, 0), (zk_lka [], fun _ _ => none, zk_in [], zk_in [], zk_lka []))
theorem MO_X8_wayOn : zk_MO RX8 cX8_wayOn (yX8_wayOn.name = "<init>") M_X8_wayOn := zk_MO_of clo_X8_wayOn rfl tbo_X8
theorem TO_X8_wayOn : zk_TO RX8 cX8_wayOn rm_X8_wayOn M_X8_wayOn := ⟨fun pc h => absurd (zk_in_mem h) List.not_mem_nil, fun pc h => absurd (zk_in_mem h) List.not_mem_nil, fun pc tag h => absurd (zk_lka_mem h) List.not_mem_nil⟩
theorem THo_X8_wayOn : ∀ pc X, M_X8_wayOn.2.2.2.2.1 pc = some X → zk_TH RX8 cX8_wayOn rm_X8_wayOn pc X := fun pc X h => absurd (zk_lka_mem h) List.not_mem_nil
def cl_X8_wayFrom : List (Nat × List (Nat × Instr)) := [(20, [(0, .aload_n 2), (1, .getfield 57), (4, .aload_n 3), (5, .if_acmp .ne 10), (8, .aload_n 0), (9, .getfield 9), (12, .iload_n 1), (13, .iaload), (14, .ireturn), (15, .aload_n 2), (16, .getfield 49), (19, .aload_n 3)]),
  (34, [(20, .if_acmp .ne 12), (23, .aload_n 0), (24, .getfield 15), (27, .iload_n 1), (28, .iaload), (29, .goto 4), (32, .iconst (-1)), (33, .ireturn)])]
theorem clo_X8_wayFrom : zk_okc cX8_wayFrom cl_X8_wayFrom = true := by decide +kernel
def rm_X8_wayFrom : Room := { frames := 0, cells := 0, slots := 0, locals := 0 }
def M_X8_wayFrom : zk_M := (zk_lkc cl_X8_wayFrom, zk_in [], tb_X8, (some (.int), 0, 0), (zk_lka [], fun _ _ => none, zk_in [], zk_in [], zk_lka []))
theorem MO_X8_wayFrom : zk_MO RX8 cX8_wayFrom (yX8_wayFrom.name = "<init>") M_X8_wayFrom := zk_MO_of clo_X8_wayFrom rfl tbo_X8
theorem TO_X8_wayFrom : zk_TO RX8 cX8_wayFrom rm_X8_wayFrom M_X8_wayFrom := ⟨fun pc h => absurd (zk_in_mem h) List.not_mem_nil, fun pc h => absurd (zk_in_mem h) List.not_mem_nil, fun pc tag h => absurd (zk_lka_mem h) List.not_mem_nil⟩
theorem THo_X8_wayFrom : ∀ pc X, M_X8_wayFrom.2.2.2.2.1 pc = some X → zk_TH RX8 cX8_wayFrom rm_X8_wayFrom pc X := fun pc X h => absurd (zk_lka_mem h) List.not_mem_nil
def cl_X8_isLess : List (Nat × List (Nat × Instr)) := [(20, [(0, .iload_n 0), (1, .iconst (-1)), (2, .if_icmp .eq 17), (5, .iload_n 1), (6, .iconst (-1)), (7, .if_icmp .eq 8), (10, .iload_n 0), (11, .iload_n 1), (12, .if_icmp .ge 7), (15, .iconst 1), (16, .goto 4), (19, .iconst 0)]),
  (21, [(20, .ireturn)])]
theorem clo_X8_isLess : zk_okc cX8_isLess cl_X8_isLess = true := by decide +kernel
def rm_X8_isLess : Room := { frames := 0, cells := 0, slots := 0, locals := 0 }
def M_X8_isLess : zk_M := (zk_lkc cl_X8_isLess, zk_in [], tb_X8, (some (.boolean), 0, 0), (zk_lka [], fun _ _ => none, zk_in [], zk_in [], zk_lka []))
theorem MO_X8_isLess : zk_MO RX8 cX8_isLess (yX8_isLess.name = "<init>") M_X8_isLess := zk_MO_of clo_X8_isLess rfl tbo_X8
theorem TO_X8_isLess : zk_TO RX8 cX8_isLess rm_X8_isLess M_X8_isLess := ⟨fun pc h => absurd (zk_in_mem h) List.not_mem_nil, fun pc h => absurd (zk_in_mem h) List.not_mem_nil, fun pc tag h => absurd (zk_lka_mem h) List.not_mem_nil⟩
theorem THo_X8_isLess : ∀ pc X, M_X8_isLess.2.2.2.2.1 pc = some X → zk_TH RX8 cX8_isLess rm_X8_isLess pc X := fun pc X h => absurd (zk_lka_mem h) List.not_mem_nil
def cl_X8_reckonRoom : List (Nat × List (Nat × Instr)) := [(16, [(0, .aload_n 1), (1, .getfield 82), (4, .iload_n 2), (5, .aaload), (6, .astore_n 3), (7, .aload_n 0), (8, .getfield 21), (11, .iload_n 2), (12, .iconst (-1)), (13, .iastore), (14, .aload_n 0), (15, .getfield 24)]),
  (34, [(18, .iload_n 2), (19, .iconst (-1)), (20, .iastore), (21, .aload_n 0), (22, .getfield 27), (25, .iload_n 2), (26, .iconst (-1)), (27, .iastore), (28, .aload_n 3), (29, .ifnonnull 4), (32, .return_), (33, .iconst 2)]),
  (53, [(34, .aload_n 3), (35, .getfield 86), (38, .imul), (39, .aload_n 3), (40, .getfield 91), (43, .iadd), (44, .istore 4), (46, .iconst 2), (47, .aload_n 3), (48, .getfield 94), (51, .imul), (52, .aload_n 3)]),
  (72, [(53, .getfield 97), (56, .iadd), (57, .istore 5), (59, .aload_n 0), (60, .getfield 21), (63, .iload_n 2), (64, .aload_n 0), (65, .aload_n 1), (66, .aload_n 3), (67, .iload 4), (69, .iload 5), (71, .invokevirtual 100)]),
  (90, [(74, .iastore), (75, .aload_n 0), (76, .getfield 24), (79, .iload_n 2), (80, .aload_n 0), (81, .aload_n 1), (82, .aload_n 3), (83, .aload_n 0), (84, .getfield 21), (87, .iload_n 2), (88, .iaload), (89, .iload 4)]),
  (111, [(91, .iload 5), (93, .invokevirtual 104), (96, .iastore), (97, .iconst 0), (98, .istore 6), (100, .iload 6), (102, .iconst 4), (103, .if_icmp .ge 102), (106, .iconst 2), (107, .iload 6), (109, .iconst 2), (110, .irem)]),
  (134, [(111, .ifCond .ne 10), (114, .aload_n 3), (115, .getfield 86), (118, .goto 12), (121, .aload_n 3), (122, .getfield 86), (125, .aload_n 3), (126, .getfield 91), (129, .iadd), (130, .imul), (131, .istore 7), (133, .iconst 2)]),
  (157, [(134, .iload 6), (136, .iconst 2), (137, .idiv), (138, .ifCond .ne 10), (141, .aload_n 3), (142, .getfield 94), (145, .goto 12), (148, .aload_n 3), (149, .getfield 94), (152, .aload_n 3), (153, .getfield 97), (156, .iadd)]),
  (174, [(157, .imul), (158, .istore 8), (160, .aload_n 0), (161, .aload_n 1), (162, .aload_n 3), (163, .aload_n 0), (164, .aload_n 1), (165, .aload_n 3), (166, .iload 7), (168, .iload 8), (170, .invokevirtual 100), (173, .iload 7)]),
  (196, [(175, .iload 8), (177, .invokevirtual 104), (180, .istore 9), (182, .aload_n 0), (183, .getfield 27), (186, .iload_n 2), (187, .aload_n 0), (188, .getfield 27), (191, .iload_n 2), (192, .iaload), (193, .iload 9), (195, .invokestatic 108)]),
  (206, [(198, .iastore), (199, .iinc 6 1), (202, .goto (-102)), (205, .return_)])]
theorem clo_X8_reckonRoom : zk_okc cX8_reckonRoom cl_X8_reckonRoom = true := by decide +kernel
def rm_X8_reckonRoom : Room := { frames := 4, cells := 0, slots := 0, locals := 100 }
def M_X8_reckonRoom : zk_M := (zk_lkc cl_X8_reckonRoom, zk_in [100], tb_X8, (none, 0, 0), (zk_lka [], fun _ _ => none, zk_in [], zk_in [], zk_lka [(195, 1)]))
theorem MO_X8_reckonRoom : zk_MO RX8 cX8_reckonRoom (yX8_reckonRoom.name = "<init>") M_X8_reckonRoom := zk_MO_of clo_X8_reckonRoom rfl tbo_X8
theorem TO_X8_reckonRoom : zk_TO RX8 cX8_reckonRoom rm_X8_reckonRoom M_X8_reckonRoom := ⟨fun pc h => absurd (zk_in_mem h) List.not_mem_nil, fun pc h => absurd (zk_in_mem h) List.not_mem_nil, fun pc tag h => by
    have h2 := zk_lka_mem h
    simp only [List.mem_cons, List.not_mem_nil, or_false, Prod.mk.injEq] at h2
    rcases h2 with ⟨rfl, rfl⟩
    exact ⟨108, by decide +kernel, zk_wi 252 (by decide +kernel) rfl, by decide, by decide⟩⟩
theorem THo_X8_reckonRoom : ∀ pc X, M_X8_reckonRoom.2.2.2.2.1 pc = some X → zk_TH RX8 cX8_reckonRoom rm_X8_reckonRoom pc X := fun pc X h => absurd (zk_lka_mem h) List.not_mem_nil
def cl_X8_bestExit : List (Nat × List (Nat × Instr)) := [(19, [(0, .iconst (-1)), (1, .istore 5), (3, .iconst (-1)), (4, .istore 6), (6, .iconst 0), (7, .istore 7), (9, .iload 7), (11, .bipush 50), (13, .if_icmp .ge 40), (16, .aload_n 0), (17, .aload_n 1), (18, .aload_n 2)]),
  (44, [(19, .iload 7), (21, .iload_n 3), (22, .iload 4), (24, .invokevirtual 104), (27, .istore 8), (29, .iload 8), (31, .iload 6), (33, .invokestatic 60), (36, .ifCond .eq 11), (39, .iload 7), (41, .istore 5), (43, .iload 8)]),
  (56, [(45, .istore 6), (47, .iinc 7 1), (50, .goto (-41)), (53, .iload 5), (55, .ireturn)])]
theorem clo_X8_bestExit : zk_okc cX8_bestExit cl_X8_bestExit = true := by decide +kernel
def rm_X8_bestExit : Room := { frames := 3, cells := 0, slots := 0, locals := 72 }
def M_X8_bestExit : zk_M := (zk_lkc cl_X8_bestExit, zk_in [9], tb_X8, (some (.int), 0, 0), (zk_lka [], fun _ _ => none, zk_in [], zk_in [], zk_lka []))
theorem MO_X8_bestExit : zk_MO RX8 cX8_bestExit (yX8_bestExit.name = "<init>") M_X8_bestExit := zk_MO_of clo_X8_bestExit rfl tbo_X8
theorem TO_X8_bestExit : zk_TO RX8 cX8_bestExit rm_X8_bestExit M_X8_bestExit := ⟨fun pc h => absurd (zk_in_mem h) List.not_mem_nil, fun pc h => absurd (zk_in_mem h) List.not_mem_nil, fun pc tag h => absurd (zk_lka_mem h) List.not_mem_nil⟩
theorem THo_X8_bestExit : ∀ pc X, M_X8_bestExit.2.2.2.2.1 pc = some X → zk_TH RX8 cX8_bestExit rm_X8_bestExit pc X := fun pc X h => absurd (zk_lka_mem h) List.not_mem_nil
def cl_X8_wayBy : List (Nat × List (Nat × Instr)) := [(21, [(0, .aload_n 1), (1, .iload_n 3), (2, .invokevirtual 33), (5, .astore 6), (7, .aload 6), (9, .ifnonnull 7), (12, .iconst (-1)), (13, .goto 11), (16, .aload_n 0), (17, .iload_n 3), (18, .aload 6), (20, .aload_n 2)]),
  (46, [(21, .invokevirtual 64), (24, .istore 7), (26, .iload 7), (28, .iconst (-1)), (29, .if_icmp .ne 7), (32, .iconst (-1)), (33, .goto 15), (36, .aload 6), (38, .iload 4), (40, .iload 5), (42, .invokevirtual 78), (45, .iload 7)]),
  (49, [(47, .iadd), (48, .ireturn)])]
theorem clo_X8_wayBy : zk_okc cX8_wayBy cl_X8_wayBy = true := by decide +kernel
def rm_X8_wayBy : Room := { frames := 2, cells := 0, slots := 0, locals := 45 }
def M_X8_wayBy : zk_M := (zk_lkc cl_X8_wayBy, zk_in [], tb_X8, (some (.int), 0, 0), (zk_lka [], fun _ _ => none, zk_in [], zk_in [], zk_lka []))
theorem MO_X8_wayBy : zk_MO RX8 cX8_wayBy (yX8_wayBy.name = "<init>") M_X8_wayBy := zk_MO_of clo_X8_wayBy rfl tbo_X8
theorem TO_X8_wayBy : zk_TO RX8 cX8_wayBy rm_X8_wayBy M_X8_wayBy := ⟨fun pc h => absurd (zk_in_mem h) List.not_mem_nil, fun pc h => absurd (zk_in_mem h) List.not_mem_nil, fun pc tag h => absurd (zk_lka_mem h) List.not_mem_nil⟩
theorem THo_X8_wayBy : ∀ pc X, M_X8_wayBy.2.2.2.2.1 pc = some X → zk_TH RX8 cX8_wayBy rm_X8_wayBy pc X := fun pc X h => absurd (zk_lka_mem h) List.not_mem_nil
def cl_X8_reckonDepths : List (Nat × List (Nat × Instr)) := [(17, [(0, .iconst 0), (1, .istore_n 2), (2, .iload_n 2), (3, .bipush 20), (5, .if_icmp .ge 26), (8, .aload_n 0), (9, .getfield 30), (12, .iload_n 2), (13, .aload_n 0), (14, .aload_n 1), (15, .aload_n 1), (16, .getfield 82)]),
  (32, [(19, .iload_n 2), (20, .aaload), (21, .invokevirtual 113), (24, .iastore), (25, .iinc 2 1), (28, .goto (-26)), (31, .return_)])]
theorem clo_X8_reckonDepths : zk_okc cX8_reckonDepths cl_X8_reckonDepths = true := by decide +kernel
def rm_X8_reckonDepths : Room := { frames := 2, cells := 0, slots := 0, locals := 46 }
def M_X8_reckonDepths : zk_M := (zk_lkc cl_X8_reckonDepths, zk_in [2], tb_X8, (none, 0, 0), (zk_lka [], fun _ _ => none, zk_in [], zk_in [], zk_lka []))
theorem MO_X8_reckonDepths : zk_MO RX8 cX8_reckonDepths (yX8_reckonDepths.name = "<init>") M_X8_reckonDepths := zk_MO_of clo_X8_reckonDepths rfl tbo_X8
theorem TO_X8_reckonDepths : zk_TO RX8 cX8_reckonDepths rm_X8_reckonDepths M_X8_reckonDepths := ⟨fun pc h => absurd (zk_in_mem h) List.not_mem_nil, fun pc h => absurd (zk_in_mem h) List.not_mem_nil, fun pc tag h => absurd (zk_lka_mem h) List.not_mem_nil⟩
theorem THo_X8_reckonDepths : ∀ pc X, M_X8_reckonDepths.2.2.2.2.1 pc = some X → zk_TH RX8 cX8_reckonDepths rm_X8_reckonDepths pc X := fun pc X h => absurd (zk_lka_mem h) List.not_mem_nil
def cl_X8_depthOf : List (Nat × List (Nat × Instr)) := [(22, [(0, .aload_n 2), (1, .astore_n 3), (2, .iconst 0), (3, .istore 4), (5, .iload 4), (7, .bipush 20), (9, .if_icmp .gt 54), (12, .aload_n 3), (13, .ifnonnull 15), (16, .iload 4), (18, .ifCond .ne 7), (21, .iconst (-1))]),
  (44, [(22, .goto 5), (25, .iload 4), (27, .ireturn), (28, .aload_n 1), (29, .aload_n 0), (30, .getfield 21), (33, .aload_n 3), (34, .getfield 117), (37, .iaload), (38, .invokevirtual 33), (41, .astore 5), (43, .aload 5)]),
  (65, [(45, .ifnonnull 5), (48, .iconst (-1)), (49, .ireturn), (50, .aload 5), (52, .aload_n 3), (53, .invokevirtual 120), (56, .astore_n 3), (57, .iinc 4 1), (60, .goto (-55)), (63, .iconst (-1)), (64, .ireturn)])]
theorem clo_X8_depthOf : zk_okc cX8_depthOf cl_X8_depthOf = true := by decide +kernel
def rm_X8_depthOf : Room := { frames := 1, cells := 0, slots := 0, locals := 21 }
def M_X8_depthOf : zk_M := (zk_lkc cl_X8_depthOf, zk_in [5], tb_X8, (some (.int), 0, 0), (zk_lka [], fun _ _ => none, zk_in [], zk_in [], zk_lka []))
theorem MO_X8_depthOf : zk_MO RX8 cX8_depthOf (yX8_depthOf.name = "<init>") M_X8_depthOf := zk_MO_of clo_X8_depthOf rfl tbo_X8
theorem TO_X8_depthOf : zk_TO RX8 cX8_depthOf rm_X8_depthOf M_X8_depthOf := ⟨fun pc h => absurd (zk_in_mem h) List.not_mem_nil, fun pc h => absurd (zk_in_mem h) List.not_mem_nil, fun pc tag h => absurd (zk_lka_mem h) List.not_mem_nil⟩
theorem THo_X8_depthOf : ∀ pc X, M_X8_depthOf.2.2.2.2.1 pc = some X → zk_TH RX8 cX8_depthOf rm_X8_depthOf pc X := fun pc X h => absurd (zk_lka_mem h) List.not_mem_nil
def cl_X8_reckonLoads : List (Nat × List (Nat × Instr)) := [(19, [(0, .iconst 0), (1, .istore_n 2), (2, .iload_n 2), (3, .bipush 50), (5, .if_icmp .ge 16), (8, .aload_n 0), (9, .getfield 18), (12, .iload_n 2), (13, .iconst 0), (14, .iastore), (15, .iinc 2 1), (18, .goto (-16))]),
  (39, [(21, .aload_n 1), (22, .getfield 82), (25, .astore_n 2), (26, .aload_n 2), (27, .arraylength), (28, .istore_n 3), (29, .iconst 0), (30, .istore 4), (32, .iload 4), (34, .iload_n 3), (35, .if_icmp .ge 27), (38, .aload_n 2)]),
  (63, [(39, .iload 4), (41, .aaload), (42, .astore 5), (44, .aload 5), (46, .ifnull 10), (49, .aload_n 0), (50, .aload_n 1), (51, .aload 5), (53, .invokevirtual 124), (56, .iinc 4 1), (59, .goto (-27)), (62, .return_)])]
theorem clo_X8_reckonLoads : zk_okc cX8_reckonLoads cl_X8_reckonLoads = true := by decide +kernel
def rm_X8_reckonLoads : Room := { frames := 2, cells := 0, slots := 0, locals := 47 }
def M_X8_reckonLoads : zk_M := (zk_lkc cl_X8_reckonLoads, zk_in [2, 32], tb_X8, (none, 0, 0), (zk_lka [], fun _ _ => none, zk_in [], zk_in [], zk_lka []))
theorem MO_X8_reckonLoads : zk_MO RX8 cX8_reckonLoads (yX8_reckonLoads.name = "<init>") M_X8_reckonLoads := zk_MO_of clo_X8_reckonLoads rfl tbo_X8
theorem TO_X8_reckonLoads : zk_TO RX8 cX8_reckonLoads rm_X8_reckonLoads M_X8_reckonLoads := ⟨fun pc h => absurd (zk_in_mem h) List.not_mem_nil, fun pc h => absurd (zk_in_mem h) List.not_mem_nil, fun pc tag h => absurd (zk_lka_mem h) List.not_mem_nil⟩
theorem THo_X8_reckonLoads : ∀ pc X, M_X8_reckonLoads.2.2.2.2.1 pc = some X → zk_TH RX8 cX8_reckonLoads rm_X8_reckonLoads pc X := fun pc X h => absurd (zk_lka_mem h) List.not_mem_nil
def cl_X8_addLoadOf : List (Nat × List (Nat × Instr)) := [(20, [(0, .aload_n 2), (1, .astore_n 3), (2, .iconst 0), (3, .istore 4), (5, .aload_n 3), (6, .ifnull 69), (9, .iload 4), (11, .aload_n 0), (12, .getfield 30), (15, .aload_n 2), (16, .getfield 117), (19, .iaload)]),
  (43, [(20, .if_icmp .ge 55), (23, .aload_n 0), (24, .getfield 21), (27, .aload_n 3), (28, .getfield 117), (31, .iaload), (32, .istore 5), (34, .aload_n 1), (35, .iload 5), (37, .invokevirtual 33), (40, .astore 6), (42, .aload 6)]),
  (63, [(44, .ifnonnull 4), (47, .return_), (48, .aload_n 0), (49, .getfield 18), (52, .iload 5), (54, .dup2), (55, .iaload), (56, .aload_n 2), (57, .getfield 128), (60, .iadd), (61, .iastore), (62, .aload 6)]),
  (76, [(64, .aload_n 3), (65, .invokevirtual 120), (68, .astore_n 3), (69, .iinc 4 1), (72, .goto (-67)), (75, .return_)])]
theorem clo_X8_addLoadOf : zk_okc cX8_addLoadOf cl_X8_addLoadOf = true := by decide +kernel
def rm_X8_addLoadOf : Room := { frames := 1, cells := 0, slots := 0, locals := 21 }
def M_X8_addLoadOf : zk_M := (zk_lkc cl_X8_addLoadOf, zk_in [5], tb_X8, (none, 0, 0), (zk_lka [], fun _ _ => none, zk_in [], zk_in [], zk_lka []))
theorem MO_X8_addLoadOf : zk_MO RX8 cX8_addLoadOf (yX8_addLoadOf.name = "<init>") M_X8_addLoadOf := zk_MO_of clo_X8_addLoadOf rfl tbo_X8
theorem TO_X8_addLoadOf : zk_TO RX8 cX8_addLoadOf rm_X8_addLoadOf M_X8_addLoadOf := ⟨fun pc h => absurd (zk_in_mem h) List.not_mem_nil, fun pc h => absurd (zk_in_mem h) List.not_mem_nil, fun pc tag h => absurd (zk_lka_mem h) List.not_mem_nil⟩
theorem THo_X8_addLoadOf : ∀ pc X, M_X8_addLoadOf.2.2.2.2.1 pc = some X → zk_TH RX8 cX8_addLoadOf rm_X8_addLoadOf pc X := fun pc X h => absurd (zk_lka_mem h) List.not_mem_nil
def cl_X8_countStuck : List (Nat × List (Nat × Instr)) := [(17, [(0, .iconst 0), (1, .istore_n 2), (2, .aload_n 1), (3, .getfield 82), (6, .astore_n 3), (7, .aload_n 3), (8, .arraylength), (9, .istore 4), (11, .iconst 0), (12, .istore 5), (14, .iload 5), (16, .iload 4)]),
  (42, [(18, .if_icmp .ge 42), (21, .aload_n 3), (22, .iload 5), (24, .aaload), (25, .astore 6), (27, .aload 6), (29, .ifnull 25), (32, .aload_n 0), (33, .getfield 30), (36, .aload 6), (38, .getfield 117), (41, .iaload)]),
  (62, [(42, .iconst (-1)), (43, .if_icmp .ne 11), (46, .iload_n 2), (47, .aload 6), (49, .getfield 128), (52, .iadd), (53, .istore_n 2), (54, .iinc 5 1), (57, .goto (-43)), (60, .iload_n 2), (61, .ireturn)])]
theorem clo_X8_countStuck : zk_okc cX8_countStuck cl_X8_countStuck = true := by decide +kernel
def rm_X8_countStuck : Room := { frames := 0, cells := 0, slots := 0, locals := 0 }
def M_X8_countStuck : zk_M := (zk_lkc cl_X8_countStuck, zk_in [14], tb_X8, (some (.int), 0, 0), (zk_lka [], fun _ _ => none, zk_in [], zk_in [], zk_lka []))
theorem MO_X8_countStuck : zk_MO RX8 cX8_countStuck (yX8_countStuck.name = "<init>") M_X8_countStuck := zk_MO_of clo_X8_countStuck rfl tbo_X8
theorem TO_X8_countStuck : zk_TO RX8 cX8_countStuck rm_X8_countStuck M_X8_countStuck := ⟨fun pc h => absurd (zk_in_mem h) List.not_mem_nil, fun pc h => absurd (zk_in_mem h) List.not_mem_nil, fun pc tag h => absurd (zk_lka_mem h) List.not_mem_nil⟩
theorem THo_X8_countStuck : ∀ pc X, M_X8_countStuck.2.2.2.2.1 pc = some X → zk_TH RX8 cX8_countStuck rm_X8_countStuck pc X := fun pc X h => absurd (zk_lka_mem h) List.not_mem_nil
def cl_X9_init : List (Nat × List (Nat × Instr)) := [(15, [(0, .aload_n 0), (1, .invokespecial 1), (4, .aload_n 0), (5, .aload_n 1), (6, .putfield 7), (9, .aload_n 0), (10, .aload_n 2), (11, .putfield 13), (14, .return_)])]
theorem clo_X9_init : zk_okc cX9_init cl_X9_init = true := by decide +kernel
def rm_X9_init : Room := { frames := 1, cells := 0, slots := 0, locals := 20 }
def M_X9_init : zk_M := (zk_lkc cl_X9_init, zk_in [], tbi_X9, (none, 0, 0), (zk_lka [], fun _ _ => none, zk_in [1], zk_in [], zk_lka []))
theorem MO_X9_init : zk_MO RX9 cX9_init (yX9_init.name = "<init>") M_X9_init := zk_MO_of clo_X9_init rfl (tbio_X9 rfl)
theorem TO_X9_init : zk_TO RX9 cX9_init rm_X9_init M_X9_init := ⟨fun pc h => by
    have h2 := zk_in_mem h
    simp only [List.mem_cons, List.not_mem_nil, or_false] at h2
    subst h2
    exact ⟨1, by decide +kernel, zk_wi 737 (by decide +kernel) rfl, by decide, by decide⟩, fun pc h => absurd (zk_in_mem h) List.not_mem_nil, fun pc tag h => absurd (zk_lka_mem h) List.not_mem_nil⟩
theorem THo_X9_init : ∀ pc X, M_X9_init.2.2.2.2.1 pc = some X → zk_TH RX9 cX9_init rm_X9_init pc X := fun pc X h => absurd (zk_lka_mem h) List.not_mem_nil
def cl_X10_init : List (Nat × List (Nat × Instr)) := [(24, [(0, .aload_n 0), (1, .invokespecial 3), (4, .aload_n 0), (5, .new 9), (8, .dup), (9, .invokespecial 11), (12, .putfield 12), (15, .aload_n 0), (16, .new 16), (19, .dup), (20, .invokespecial 18), (23, .putfield 19)]),
  (50, [(26, .aload_n 0), (27, .new 23), (30, .dup), (31, .invokespecial 25), (34, .putfield 26), (37, .aload_n 0), (38, .new 30), (41, .dup), (42, .invokespecial 32), (45, .putfield 33), (48, .aload_n 0), (49, .iconst 0)]),
  (54, [(50, .putfield 37), (53, .return_)])]
theorem clo_X10_init : zk_okc cX10_init cl_X10_init = true := by decide +kernel
def rm_X10_init : Room := { frames := 2, cells := 21, slots := 1042, locals := 42 }
def M_X10_init : zk_M := (zk_lkc cl_X10_init, zk_in [], tbi_X10, (none, 21, 1042), (zk_lka [], fun _ _ => none, zk_in [1], zk_in [], zk_lka []))
theorem MO_X10_init : zk_MO RX10 cX10_init (yX10_init.name = "<init>") M_X10_init := zk_MO_of clo_X10_init rfl (tbio_X10 rfl)
theorem TO_X10_init : zk_TO RX10 cX10_init rm_X10_init M_X10_init := ⟨fun pc h => by
    have h2 := zk_in_mem h
    simp only [List.mem_cons, List.not_mem_nil, or_false] at h2
    subst h2
    exact ⟨3, by decide +kernel, zk_wi 25 (by decide +kernel) rfl, by decide, by decide⟩, fun pc h => absurd (zk_in_mem h) List.not_mem_nil, fun pc tag h => absurd (zk_lka_mem h) List.not_mem_nil⟩
theorem THo_X10_init : ∀ pc X, M_X10_init.2.2.2.2.1 pc = some X → zk_TH RX10 cX10_init rm_X10_init pc X := fun pc X h => absurd (zk_lka_mem h) List.not_mem_nil
def cl_X10_addRoom : List (Nat × List (Nat × Instr)) := [(21, [(0, .iload_n 1), (1, .iconst 0), (2, .iconst 2), (3, .invokestatic 41), (6, .ifCond .eq 55), (9, .iload 6), (11, .iconst 0), (12, .iconst 3), (13, .invokestatic 41), (16, .ifCond .eq 45), (19, .iload_n 2), (20, .iconst 0)]),
  (45, [(21, .bipush 60), (23, .invokestatic 41), (26, .ifCond .eq 35), (29, .iload_n 3), (30, .iconst 0), (31, .bipush 60), (33, .invokestatic 41), (36, .ifCond .eq 25), (39, .iload 4), (41, .iconst 1), (42, .bipush 30), (44, .invokestatic 41)]),
  (72, [(47, .ifCond .eq 14), (50, .iload 5), (52, .iconst 1), (53, .bipush 30), (55, .invokestatic 41), (58, .ifCond .ne 13), (61, .new 45), (64, .dup), (65, .ldc 47), (67, .invokespecial 49), (70, .athrow), (71, .aload_n 0)]),
  (98, [(72, .getfield 12), (75, .getfield 52), (78, .istore 7), (80, .iload 7), (82, .bipush 20), (84, .if_icmp .lt 13), (87, .new 56), (90, .dup), (91, .ldc 58), (93, .invokespecial 60), (96, .athrow), (97, .new 61)]),
  (119, [(100, .dup), (101, .iload 7), (103, .iload_n 1), (104, .iload_n 2), (105, .iload_n 3), (106, .iload 4), (108, .iload 5), (110, .iload 6), (112, .invokespecial 63), (115, .astore 8), (117, .aload_n 0), (118, .getfield 12)]),
  (147, [(121, .aload 8), (123, .invokevirtual 66), (126, .ifCond .eq 13), (129, .new 56), (132, .dup), (133, .ldc 70), (135, .invokespecial 60), (138, .athrow), (139, .aload_n 0), (140, .getfield 12), (143, .getfield 72), (146, .iload 7)]),
  (168, [(148, .aload 8), (150, .aastore), (151, .aload_n 0), (152, .getfield 12), (155, .iload 7), (157, .iconst 1), (158, .iadd), (159, .putfield 52), (162, .aload_n 0), (163, .iconst 0), (164, .putfield 37), (167, .iload 7)]),
  (170, [(169, .ireturn)])]
theorem clo_X10_addRoom : zk_okc cX10_addRoom cl_X10_addRoom = true := by decide +kernel
def rm_X10_addRoom : Room := { frames := 6, cells := 4, slots := 26, locals := 82 }
def M_X10_addRoom : zk_M := (zk_lkc cl_X10_addRoom, zk_in [], tb_X10, (some (.int), 4, 26), (zk_lka [(61, "java/lang/IllegalArgumentException"), (87, "java/lang/IllegalStateException"), (129, "java/lang/IllegalStateException")], fun _ _ => none, zk_in [], zk_in [], zk_lka []))
theorem MO_X10_addRoom : zk_MO RX10 cX10_addRoom (yX10_addRoom.name = "<init>") M_X10_addRoom := zk_MO_of clo_X10_addRoom rfl tbo_X10
theorem TO_X10_addRoom : zk_TO RX10 cX10_addRoom rm_X10_addRoom M_X10_addRoom := ⟨fun pc h => absurd (zk_in_mem h) List.not_mem_nil, fun pc h => absurd (zk_in_mem h) List.not_mem_nil, fun pc tag h => absurd (zk_lka_mem h) List.not_mem_nil⟩
theorem TH_X10_addRoom_61 : zk_TH RX10 cX10_addRoom rm_X10_addRoom 61 "java/lang/IllegalArgumentException" := ⟨45, 47, 49, "no such floor, place, size or use", ["java/lang/RuntimeException", "java/lang/Exception"], zk_wi 403 (by decide +kernel) rfl, zk_wi 10 (by decide +kernel) rfl, by decide +kernel, ats_0, by decide +kernel, by decide +kernel, by decide, by decide, by decide +kernel, by decide +kernel, Or.inl ⟨by decide +kernel, by decide +kernel, by decide +kernel⟩⟩
theorem TH_X10_addRoom_87 : zk_TH RX10 cX10_addRoom rm_X10_addRoom 87 "java/lang/IllegalStateException" := ⟨56, 58, 60, "all rooms were laid", ["java/lang/RuntimeException", "java/lang/Exception"], zk_wi 471 (by decide +kernel) rfl, zk_wi 11 (by decide +kernel) rfl, by decide +kernel, ats_1, by decide +kernel, by decide +kernel, by decide, by decide, by decide +kernel, by decide +kernel, Or.inl ⟨by decide +kernel, by decide +kernel, by decide +kernel⟩⟩
theorem TH_X10_addRoom_129 : zk_TH RX10 cX10_addRoom rm_X10_addRoom 129 "java/lang/IllegalStateException" := ⟨56, 70, 60, "another room is there", ["java/lang/RuntimeException", "java/lang/Exception"], zk_wi 471 (by decide +kernel) rfl, zk_wi 11 (by decide +kernel) rfl, by decide +kernel, ats_1, by decide +kernel, by decide +kernel, by decide, by decide, by decide +kernel, by decide +kernel, Or.inl ⟨by decide +kernel, by decide +kernel, by decide +kernel⟩⟩
theorem THo_X10_addRoom : ∀ pc X, M_X10_addRoom.2.2.2.2.1 pc = some X → zk_TH RX10 cX10_addRoom rm_X10_addRoom pc X := fun pc X h => by
    have h2 := zk_lka_mem h
    simp only [List.mem_cons, List.not_mem_nil, or_false, Prod.mk.injEq] at h2
    rcases h2 with ⟨rfl, rfl⟩ | ⟨rfl, rfl⟩ | ⟨rfl, rfl⟩
    · exact TH_X10_addRoom_61
    · exact TH_X10_addRoom_87
    · exact TH_X10_addRoom_129
def cl_X10_removeRoom : List (Nat × List (Nat × Instr)) := [(20, [(0, .aload_n 0), (1, .iload_n 1), (2, .invokevirtual 76), (5, .astore_n 2), (6, .aload_n 0), (7, .getfield 12), (10, .getfield 72), (13, .aload_n 2), (14, .getfield 80), (17, .aconst_null), (18, .aastore), (19, .aload_n 0)]),
  (33, [(20, .iconst 0), (21, .putfield 37), (24, .aload_n 0), (25, .getfield 12), (28, .aload_n 2), (29, .invokevirtual 83), (32, .ireturn)])]
theorem clo_X10_removeRoom : zk_okc cX10_removeRoom cl_X10_removeRoom = true := by decide +kernel
def rm_X10_removeRoom : Room := { frames := 7, cells := 1, slots := 6, locals := 104 }
def M_X10_removeRoom : zk_M := (zk_lkc cl_X10_removeRoom, zk_in [], tb_X10, (some (.int), 1, 6), (zk_lka [], fun _ _ => none, zk_in [], zk_in [], zk_lka []))
theorem MO_X10_removeRoom : zk_MO RX10 cX10_removeRoom (yX10_removeRoom.name = "<init>") M_X10_removeRoom := zk_MO_of clo_X10_removeRoom rfl tbo_X10
theorem TO_X10_removeRoom : zk_TO RX10 cX10_removeRoom rm_X10_removeRoom M_X10_removeRoom := ⟨fun pc h => absurd (zk_in_mem h) List.not_mem_nil, fun pc h => absurd (zk_in_mem h) List.not_mem_nil, fun pc tag h => absurd (zk_lka_mem h) List.not_mem_nil⟩
theorem THo_X10_removeRoom : ∀ pc X, M_X10_removeRoom.2.2.2.2.1 pc = some X → zk_TH RX10 cX10_removeRoom rm_X10_removeRoom pc X := fun pc X h => absurd (zk_lka_mem h) List.not_mem_nil
def cl_X10_setPeople : List (Nat × List (Nat × Instr)) := [(22, [(0, .aload_n 0), (1, .iload_n 1), (2, .invokevirtual 76), (5, .astore_n 3), (6, .iload_n 2), (7, .iconst 0), (8, .sipush 200), (11, .invokestatic 41), (14, .ifCond .ne 13), (17, .new 45), (20, .dup), (21, .ldc 87)]),
  (44, [(23, .invokespecial 49), (26, .athrow), (27, .aload_n 3), (28, .getfield 89), (31, .istore 4), (33, .aload_n 3), (34, .iload_n 2), (35, .putfield 89), (38, .aload_n 0), (39, .iconst 0), (40, .putfield 37), (43, .iload 4)]),
  (46, [(45, .ireturn)])]
theorem clo_X10_setPeople : zk_okc cX10_setPeople cl_X10_setPeople = true := by decide +kernel
def rm_X10_setPeople : Room := { frames := 7, cells := 2, slots := 12, locals := 104 }
def M_X10_setPeople : zk_M := (zk_lkc cl_X10_setPeople, zk_in [], tb_X10, (some (.int), 2, 12), (zk_lka [(17, "java/lang/IllegalArgumentException")], fun _ _ => none, zk_in [], zk_in [], zk_lka []))
theorem MO_X10_setPeople : zk_MO RX10 cX10_setPeople (yX10_setPeople.name = "<init>") M_X10_setPeople := zk_MO_of clo_X10_setPeople rfl tbo_X10
theorem TO_X10_setPeople : zk_TO RX10 cX10_setPeople rm_X10_setPeople M_X10_setPeople := ⟨fun pc h => absurd (zk_in_mem h) List.not_mem_nil, fun pc h => absurd (zk_in_mem h) List.not_mem_nil, fun pc tag h => absurd (zk_lka_mem h) List.not_mem_nil⟩
theorem TH_X10_setPeople_17 : zk_TH RX10 cX10_setPeople rm_X10_setPeople 17 "java/lang/IllegalArgumentException" := ⟨45, 87, 49, "people are 0 to 200", ["java/lang/RuntimeException", "java/lang/Exception"], zk_wi 403 (by decide +kernel) rfl, zk_wi 10 (by decide +kernel) rfl, by decide +kernel, ats_0, by decide +kernel, by decide +kernel, by decide, by decide, by decide +kernel, by decide +kernel, Or.inl ⟨by decide +kernel, by decide +kernel, by decide +kernel⟩⟩
theorem THo_X10_setPeople : ∀ pc X, M_X10_setPeople.2.2.2.2.1 pc = some X → zk_TH RX10 cX10_setPeople rm_X10_setPeople pc X := fun pc X h => by
    have h2 := zk_lka_mem h
    simp only [List.mem_cons, List.not_mem_nil, or_false, Prod.mk.injEq] at h2
    rcases h2 with ⟨rfl, rfl⟩
    exact TH_X10_setPeople_17
def cl_X10_addDoor : List (Nat × List (Nat × Instr)) := [(19, [(0, .aload_n 0), (1, .iload_n 1), (2, .invokevirtual 76), (5, .astore 7), (7, .iload_n 2), (8, .iconst (-1)), (9, .if_icmp .ne 7), (12, .aconst_null), (13, .goto 8), (16, .aload_n 0), (17, .iload_n 2), (18, .invokevirtual 76)]),
  (48, [(21, .astore 8), (23, .iload 6), (25, .iconst 1), (26, .bipush 6), (28, .invokestatic 41), (31, .ifCond .eq 13), (34, .aload 7), (36, .aload 8), (38, .invokestatic 92), (41, .ifCond .ne 13), (44, .new 45), (47, .dup)]),
  (74, [(48, .ldc 96), (50, .invokespecial 49), (53, .athrow), (54, .aload_n 0), (55, .getfield 12), (58, .getfield 98), (61, .istore 9), (63, .iload 9), (65, .bipush 40), (67, .if_icmp .lt 13), (70, .new 56), (73, .dup)]),
  (97, [(74, .ldc 101), (76, .invokespecial 60), (79, .athrow), (80, .new 103), (83, .dup), (84, .aload 7), (86, .getfield 105), (89, .iload_n 3), (90, .iload 4), (92, .iload 5), (94, .iload 6), (96, .invokespecial 108)]),
  (124, [(99, .astore 10), (101, .aload_n 0), (102, .getfield 12), (105, .aload 10), (107, .aload 7), (109, .aload 8), (111, .invokevirtual 111), (114, .ifCond .ne 13), (117, .new 56), (120, .dup), (121, .ldc 115), (123, .invokespecial 60)]),
  (150, [(126, .athrow), (127, .aload_n 0), (128, .getfield 12), (131, .getfield 117), (134, .iload 9), (136, .new 121), (139, .dup), (140, .aload 7), (142, .aload 8), (144, .aload 10), (146, .invokespecial 123), (149, .aastore)]),
  (169, [(150, .aload_n 0), (151, .getfield 12), (154, .iload 9), (156, .iconst 1), (157, .iadd), (158, .putfield 98), (161, .aload_n 0), (162, .iconst 0), (163, .putfield 37), (166, .iload 9), (168, .ireturn)])]
theorem clo_X10_addDoor : zk_okc cX10_addDoor cl_X10_addDoor = true := by decide +kernel
def rm_X10_addDoor : Room := { frames := 7, cells := 7, slots := 43, locals := 113 }
def M_X10_addDoor : zk_M := (zk_lkc cl_X10_addDoor, zk_in [], tb_X10, (some (.int), 7, 43), (zk_lka [(44, "java/lang/IllegalArgumentException"), (70, "java/lang/IllegalStateException"), (117, "java/lang/IllegalStateException")], fun _ _ => none, zk_in [], zk_in [], zk_lka []))
theorem MO_X10_addDoor : zk_MO RX10 cX10_addDoor (yX10_addDoor.name = "<init>") M_X10_addDoor := zk_MO_of clo_X10_addDoor rfl tbo_X10
theorem TO_X10_addDoor : zk_TO RX10 cX10_addDoor rm_X10_addDoor M_X10_addDoor := ⟨fun pc h => absurd (zk_in_mem h) List.not_mem_nil, fun pc h => absurd (zk_in_mem h) List.not_mem_nil, fun pc tag h => absurd (zk_lka_mem h) List.not_mem_nil⟩
theorem TH_X10_addDoor_44 : zk_TH RX10 cX10_addDoor rm_X10_addDoor 44 "java/lang/IllegalArgumentException" := ⟨45, 96, 49, "no such width, or no door between these", ["java/lang/RuntimeException", "java/lang/Exception"], zk_wi 403 (by decide +kernel) rfl, zk_wi 10 (by decide +kernel) rfl, by decide +kernel, ats_0, by decide +kernel, by decide +kernel, by decide, by decide, by decide +kernel, by decide +kernel, Or.inl ⟨by decide +kernel, by decide +kernel, by decide +kernel⟩⟩
theorem TH_X10_addDoor_70 : zk_TH RX10 cX10_addDoor rm_X10_addDoor 70 "java/lang/IllegalStateException" := ⟨56, 101, 60, "all doors were put in", ["java/lang/RuntimeException", "java/lang/Exception"], zk_wi 471 (by decide +kernel) rfl, zk_wi 11 (by decide +kernel) rfl, by decide +kernel, ats_1, by decide +kernel, by decide +kernel, by decide, by decide, by decide +kernel, by decide +kernel, Or.inl ⟨by decide +kernel, by decide +kernel, by decide +kernel⟩⟩
theorem TH_X10_addDoor_117 : zk_TH RX10 cX10_addDoor rm_X10_addDoor 117 "java/lang/IllegalStateException" := ⟨56, 115, 60, "a door cannot be there", ["java/lang/RuntimeException", "java/lang/Exception"], zk_wi 471 (by decide +kernel) rfl, zk_wi 11 (by decide +kernel) rfl, by decide +kernel, ats_1, by decide +kernel, by decide +kernel, by decide, by decide, by decide +kernel, by decide +kernel, Or.inl ⟨by decide +kernel, by decide +kernel, by decide +kernel⟩⟩
theorem THo_X10_addDoor : ∀ pc X, M_X10_addDoor.2.2.2.2.1 pc = some X → zk_TH RX10 cX10_addDoor rm_X10_addDoor pc X := fun pc X h => by
    have h2 := zk_lka_mem h
    simp only [List.mem_cons, List.not_mem_nil, or_false, Prod.mk.injEq] at h2
    rcases h2 with ⟨rfl, rfl⟩ | ⟨rfl, rfl⟩ | ⟨rfl, rfl⟩
    · exact TH_X10_addDoor_44
    · exact TH_X10_addDoor_70
    · exact TH_X10_addDoor_117
def cl_X10_addWindow : List (Nat × List (Nat × Instr)) := [(23, [(0, .aload_n 0), (1, .iload_n 1), (2, .invokevirtual 76), (5, .astore 6), (7, .iload 5), (9, .iconst 1), (10, .bipush 6), (12, .invokestatic 41), (15, .ifCond .ne 13), (18, .new 45), (21, .dup), (22, .ldc 126)]),
  (49, [(24, .invokespecial 49), (27, .athrow), (28, .aload_n 0), (29, .getfield 12), (32, .getfield 128), (35, .istore 7), (37, .iload 7), (39, .bipush 40), (41, .if_icmp .lt 13), (44, .new 56), (47, .dup), (48, .ldc 131)]),
  (73, [(50, .invokespecial 60), (53, .athrow), (54, .new 103), (57, .dup), (58, .aload 6), (60, .getfield 105), (63, .iload_n 2), (64, .iload_n 3), (65, .iload 4), (67, .iload 5), (69, .invokespecial 108), (72, .astore 8)]),
  (99, [(74, .aload_n 0), (75, .getfield 12), (78, .aload 8), (80, .aload 6), (82, .aconst_null), (83, .invokevirtual 111), (86, .ifCond .ne 13), (89, .new 56), (92, .dup), (93, .ldc 133), (95, .invokespecial 60), (98, .athrow)]),
  (122, [(99, .aload_n 0), (100, .getfield 12), (103, .getfield 135), (106, .iload 7), (108, .new 139), (111, .dup), (112, .aload 6), (114, .aload 8), (116, .invokespecial 141), (119, .aastore), (120, .aload_n 0), (121, .getfield 12)]),
  (146, [(124, .iload 7), (126, .iconst 1), (127, .iadd), (128, .putfield 128), (131, .aload_n 0), (132, .iconst 0), (133, .putfield 37), (136, .aload_n 0), (137, .getfield 12), (140, .aload 6), (142, .invokevirtual 144), (145, .ireturn)])]
theorem clo_X10_addWindow : zk_okc cX10_addWindow cl_X10_addWindow = true := by decide +kernel
def rm_X10_addWindow : Room := { frames := 7, cells := 6, slots := 31, locals := 113 }
def M_X10_addWindow : zk_M := (zk_lkc cl_X10_addWindow, zk_in [], tb_X10, (some (.int), 6, 31), (zk_lka [(18, "java/lang/IllegalArgumentException"), (44, "java/lang/IllegalStateException"), (89, "java/lang/IllegalStateException")], fun _ _ => none, zk_in [], zk_in [], zk_lka []))
theorem MO_X10_addWindow : zk_MO RX10 cX10_addWindow (yX10_addWindow.name = "<init>") M_X10_addWindow := zk_MO_of clo_X10_addWindow rfl tbo_X10
theorem TO_X10_addWindow : zk_TO RX10 cX10_addWindow rm_X10_addWindow M_X10_addWindow := ⟨fun pc h => absurd (zk_in_mem h) List.not_mem_nil, fun pc h => absurd (zk_in_mem h) List.not_mem_nil, fun pc tag h => absurd (zk_lka_mem h) List.not_mem_nil⟩
theorem TH_X10_addWindow_18 : zk_TH RX10 cX10_addWindow rm_X10_addWindow 18 "java/lang/IllegalArgumentException" := ⟨45, 126, 49, "a window is 1 to 6 wide", ["java/lang/RuntimeException", "java/lang/Exception"], zk_wi 403 (by decide +kernel) rfl, zk_wi 10 (by decide +kernel) rfl, by decide +kernel, ats_0, by decide +kernel, by decide +kernel, by decide, by decide, by decide +kernel, by decide +kernel, Or.inl ⟨by decide +kernel, by decide +kernel, by decide +kernel⟩⟩
theorem TH_X10_addWindow_44 : zk_TH RX10 cX10_addWindow rm_X10_addWindow 44 "java/lang/IllegalStateException" := ⟨56, 131, 60, "all windows were put in", ["java/lang/RuntimeException", "java/lang/Exception"], zk_wi 471 (by decide +kernel) rfl, zk_wi 11 (by decide +kernel) rfl, by decide +kernel, ats_1, by decide +kernel, by decide +kernel, by decide, by decide, by decide +kernel, by decide +kernel, Or.inl ⟨by decide +kernel, by decide +kernel, by decide +kernel⟩⟩
theorem TH_X10_addWindow_89 : zk_TH RX10 cX10_addWindow rm_X10_addWindow 89 "java/lang/IllegalStateException" := ⟨56, 133, 60, "a window cannot be there", ["java/lang/RuntimeException", "java/lang/Exception"], zk_wi 471 (by decide +kernel) rfl, zk_wi 11 (by decide +kernel) rfl, by decide +kernel, ats_1, by decide +kernel, by decide +kernel, by decide, by decide, by decide +kernel, by decide +kernel, Or.inl ⟨by decide +kernel, by decide +kernel, by decide +kernel⟩⟩
theorem THo_X10_addWindow : ∀ pc X, M_X10_addWindow.2.2.2.2.1 pc = some X → zk_TH RX10 cX10_addWindow rm_X10_addWindow pc X := fun pc X h => by
    have h2 := zk_lka_mem h
    simp only [List.mem_cons, List.not_mem_nil, or_false, Prod.mk.injEq] at h2
    rcases h2 with ⟨rfl, rfl⟩ | ⟨rfl, rfl⟩ | ⟨rfl, rfl⟩
    · exact TH_X10_addWindow_18
    · exact TH_X10_addWindow_44
    · exact TH_X10_addWindow_89
def cl_X10_addStairs : List (Nat × List (Nat × Instr)) := [(22, [(0, .aload_n 0), (1, .iload_n 1), (2, .invokevirtual 76), (5, .astore 5), (7, .aload_n 0), (8, .iload_n 2), (9, .invokevirtual 76), (12, .astore 6), (14, .aload 6), (16, .getfield 105), (19, .aload 5), (21, .getfield 105)]),
  (46, [(24, .iconst 1), (25, .iadd), (26, .if_icmp .ne 25), (29, .aload 5), (31, .iload_n 3), (32, .iload 4), (34, .invokevirtual 147), (37, .ifCond .eq 14), (40, .aload 6), (42, .iload_n 3), (43, .iload 4), (45, .invokevirtual 147)]),
  (73, [(48, .ifCond .ne 13), (51, .new 45), (54, .dup), (55, .ldc 151), (57, .invokespecial 49), (60, .athrow), (61, .aload_n 0), (62, .getfield 12), (65, .getfield 153), (68, .istore 7), (70, .iload 7), (72, .bipush 10)]),
  (100, [(74, .if_icmp .lt 13), (77, .new 56), (80, .dup), (81, .ldc 156), (83, .invokespecial 60), (86, .athrow), (87, .aload_n 0), (88, .getfield 12), (91, .getfield 158), (94, .iload 7), (96, .new 162), (99, .dup)]),
  (120, [(100, .aload 5), (102, .aload 6), (104, .iload_n 3), (105, .iload 4), (107, .invokespecial 164), (110, .aastore), (111, .aload_n 0), (112, .getfield 12), (115, .iload 7), (117, .iconst 1), (118, .iadd), (119, .putfield 153)]),
  (130, [(122, .aload_n 0), (123, .iconst 0), (124, .putfield 37), (127, .iload 7), (129, .ireturn)])]
theorem clo_X10_addStairs : zk_okc cX10_addStairs cl_X10_addStairs = true := by decide +kernel
def rm_X10_addStairs : Room := { frames := 7, cells := 5, slots := 31, locals := 104 }
def M_X10_addStairs : zk_M := (zk_lkc cl_X10_addStairs, zk_in [], tb_X10, (some (.int), 5, 31), (zk_lka [(51, "java/lang/IllegalArgumentException"), (77, "java/lang/IllegalStateException")], fun _ _ => none, zk_in [], zk_in [], zk_lka []))
theorem MO_X10_addStairs : zk_MO RX10 cX10_addStairs (yX10_addStairs.name = "<init>") M_X10_addStairs := zk_MO_of clo_X10_addStairs rfl tbo_X10
theorem TO_X10_addStairs : zk_TO RX10 cX10_addStairs rm_X10_addStairs M_X10_addStairs := ⟨fun pc h => absurd (zk_in_mem h) List.not_mem_nil, fun pc h => absurd (zk_in_mem h) List.not_mem_nil, fun pc tag h => absurd (zk_lka_mem h) List.not_mem_nil⟩
theorem TH_X10_addStairs_51 : zk_TH RX10 cX10_addStairs rm_X10_addStairs 51 "java/lang/IllegalArgumentException" := ⟨45, 151, 49, "not one floor above, or the point is not in both", ["java/lang/RuntimeException", "java/lang/Exception"], zk_wi 403 (by decide +kernel) rfl, zk_wi 10 (by decide +kernel) rfl, by decide +kernel, ats_0, by decide +kernel, by decide +kernel, by decide, by decide, by decide +kernel, by decide +kernel, Or.inl ⟨by decide +kernel, by decide +kernel, by decide +kernel⟩⟩
theorem TH_X10_addStairs_77 : zk_TH RX10 cX10_addStairs rm_X10_addStairs 77 "java/lang/IllegalStateException" := ⟨56, 156, 60, "all stairs were put in", ["java/lang/RuntimeException", "java/lang/Exception"], zk_wi 471 (by decide +kernel) rfl, zk_wi 11 (by decide +kernel) rfl, by decide +kernel, ats_1, by decide +kernel, by decide +kernel, by decide, by decide, by decide +kernel, by decide +kernel, Or.inl ⟨by decide +kernel, by decide +kernel, by decide +kernel⟩⟩
theorem THo_X10_addStairs : ∀ pc X, M_X10_addStairs.2.2.2.2.1 pc = some X → zk_TH RX10 cX10_addStairs rm_X10_addStairs pc X := fun pc X h => by
    have h2 := zk_lka_mem h
    simp only [List.mem_cons, List.not_mem_nil, or_false, Prod.mk.injEq] at h2
    rcases h2 with ⟨rfl, rfl⟩ | ⟨rfl, rfl⟩
    · exact TH_X10_addStairs_51
    · exact TH_X10_addStairs_77
def cl_X10_shut : List (Nat × List (Nat × Instr)) := [(19, [(0, .aload_n 0), (1, .iload_n 1), (2, .invokevirtual 167), (5, .astore_n 3), (6, .aload_n 3), (7, .getfield 171), (10, .istore 4), (12, .aload_n 3), (13, .iload_n 2), (14, .putfield 171), (17, .aload_n 0), (18, .iconst 0)]),
  (25, [(19, .putfield 37), (22, .iload 4), (24, .ireturn)])]
theorem clo_X10_shut : zk_okc cX10_shut cl_X10_shut = true := by decide +kernel
def rm_X10_shut : Room := { frames := 7, cells := 1, slots := 6, locals := 104 }
def M_X10_shut : zk_M := (zk_lkc cl_X10_shut, zk_in [], tb_X10, (some (.boolean), 1, 6), (zk_lka [], fun _ _ => none, zk_in [], zk_in [], zk_lka []))
theorem MO_X10_shut : zk_MO RX10 cX10_shut (yX10_shut.name = "<init>") M_X10_shut := zk_MO_of clo_X10_shut rfl tbo_X10
theorem TO_X10_shut : zk_TO RX10 cX10_shut rm_X10_shut M_X10_shut := ⟨fun pc h => absurd (zk_in_mem h) List.not_mem_nil, fun pc h => absurd (zk_in_mem h) List.not_mem_nil, fun pc tag h => absurd (zk_lka_mem h) List.not_mem_nil⟩
theorem THo_X10_shut : ∀ pc X, M_X10_shut.2.2.2.2.1 pc = some X → zk_TH RX10 cX10_shut rm_X10_shut pc X := fun pc X h => absurd (zk_lka_mem h) List.not_mem_nil
def cl_X10_removeDoor : List (Nat × List (Nat × Instr)) := [(18, [(0, .aload_n 0), (1, .iload_n 1), (2, .invokevirtual 167), (5, .pop), (6, .aload_n 0), (7, .getfield 12), (10, .getfield 117), (13, .iload_n 1), (14, .aconst_null), (15, .aastore), (16, .aload_n 0), (17, .iconst 0)]),
  (32, [(18, .putfield 37), (21, .aload_n 0), (22, .getfield 12), (25, .iconst 0), (26, .bipush 40), (28, .invokevirtual 174), (31, .ireturn)])]
theorem clo_X10_removeDoor : zk_okc cX10_removeDoor cl_X10_removeDoor = true := by decide +kernel
def rm_X10_removeDoor : Room := { frames := 7, cells := 1, slots := 6, locals := 104 }
def M_X10_removeDoor : zk_M := (zk_lkc cl_X10_removeDoor, zk_in [], tb_X10, (some (.int), 1, 6), (zk_lka [], fun _ _ => none, zk_in [], zk_in [], zk_lka []))
theorem MO_X10_removeDoor : zk_MO RX10 cX10_removeDoor (yX10_removeDoor.name = "<init>") M_X10_removeDoor := zk_MO_of clo_X10_removeDoor rfl tbo_X10
theorem TO_X10_removeDoor : zk_TO RX10 cX10_removeDoor rm_X10_removeDoor M_X10_removeDoor := ⟨fun pc h => absurd (zk_in_mem h) List.not_mem_nil, fun pc h => absurd (zk_in_mem h) List.not_mem_nil, fun pc tag h => absurd (zk_lka_mem h) List.not_mem_nil⟩
theorem THo_X10_removeDoor : ∀ pc X, M_X10_removeDoor.2.2.2.2.1 pc = some X → zk_TH RX10 cX10_removeDoor rm_X10_removeDoor pc X := fun pc X h => absurd (zk_lka_mem h) List.not_mem_nil
def cl_X10_setLimit : List (Nat × List (Nat × Instr)) := [(22, [(0, .iload_n 1), (1, .iconst 0), (2, .aload_n 0), (3, .getfield 12), (6, .getfield 178), (9, .arraylength), (10, .iconst 1), (11, .isub), (12, .invokestatic 41), (15, .ifCond .ne 13), (18, .new 182), (21, .dup)]),
  (46, [(22, .ldc 184), (24, .invokespecial 186), (27, .athrow), (28, .iload_n 2), (29, .iconst 0), (30, .sipush 999), (33, .invokestatic 41), (36, .ifCond .ne 13), (39, .new 45), (42, .dup), (43, .ldc 187), (45, .invokespecial 49)]),
  (68, [(48, .athrow), (49, .aload_n 0), (50, .getfield 12), (53, .getfield 178), (56, .iload_n 1), (57, .iaload), (58, .istore_n 3), (59, .aload_n 0), (60, .getfield 12), (63, .getfield 178), (66, .iload_n 1), (67, .iload_n 2)]),
  (76, [(68, .iastore), (69, .aload_n 0), (70, .iconst 0), (71, .putfield 37), (74, .iload_n 3), (75, .ireturn)])]
theorem clo_X10_setLimit : zk_okc cX10_setLimit cl_X10_setLimit = true := by decide +kernel
def rm_X10_setLimit : Room := { frames := 6, cells := 2, slots := 12, locals := 82 }
def M_X10_setLimit : zk_M := (zk_lkc cl_X10_setLimit, zk_in [], tb_X10, (some (.int), 2, 12), (zk_lka [(18, "java/lang/IndexOutOfBoundsException"), (39, "java/lang/IllegalArgumentException")], fun _ _ => none, zk_in [], zk_in [], zk_lka []))
theorem MO_X10_setLimit : zk_MO RX10 cX10_setLimit (yX10_setLimit.name = "<init>") M_X10_setLimit := zk_MO_of clo_X10_setLimit rfl tbo_X10
theorem TO_X10_setLimit : zk_TO RX10 cX10_setLimit rm_X10_setLimit M_X10_setLimit := ⟨fun pc h => absurd (zk_in_mem h) List.not_mem_nil, fun pc h => absurd (zk_in_mem h) List.not_mem_nil, fun pc tag h => absurd (zk_lka_mem h) List.not_mem_nil⟩
theorem TH_X10_setLimit_18 : zk_TH RX10 cX10_setLimit rm_X10_setLimit 18 "java/lang/IndexOutOfBoundsException" := ⟨182, 184, 186, "no such rule", ["java/lang/RuntimeException", "java/lang/Exception"], zk_wi 554 (by decide +kernel) rfl, zk_wi 14 (by decide +kernel) rfl, by decide +kernel, ats_2, by decide +kernel, by decide +kernel, by decide, by decide, by decide +kernel, by decide +kernel, Or.inl ⟨by decide +kernel, by decide +kernel, by decide +kernel⟩⟩
theorem TH_X10_setLimit_39 : zk_TH RX10 cX10_setLimit rm_X10_setLimit 39 "java/lang/IllegalArgumentException" := ⟨45, 187, 49, "a limit is 0 to 999", ["java/lang/RuntimeException", "java/lang/Exception"], zk_wi 403 (by decide +kernel) rfl, zk_wi 10 (by decide +kernel) rfl, by decide +kernel, ats_0, by decide +kernel, by decide +kernel, by decide, by decide, by decide +kernel, by decide +kernel, Or.inl ⟨by decide +kernel, by decide +kernel, by decide +kernel⟩⟩
theorem THo_X10_setLimit : ∀ pc X, M_X10_setLimit.2.2.2.2.1 pc = some X → zk_TH RX10 cX10_setLimit rm_X10_setLimit pc X := fun pc X h => by
    have h2 := zk_lka_mem h
    simp only [List.mem_cons, List.not_mem_nil, or_false, Prod.mk.injEq] at h2
    rcases h2 with ⟨rfl, rfl⟩ | ⟨rfl, rfl⟩
    · exact TH_X10_setLimit_18
    · exact TH_X10_setLimit_39
def cl_X10_rooms : List (Nat × List (Nat × Instr)) := [(17, [(0, .iconst 0), (1, .istore_n 1), (2, .aload_n 0), (3, .getfield 12), (6, .getfield 72), (9, .astore_n 2), (10, .aload_n 2), (11, .arraylength), (12, .istore_n 3), (13, .iconst 0), (14, .istore 4), (16, .iload 4)]),
  (43, [(18, .iload_n 3), (19, .if_icmp .ge 23), (22, .aload_n 2), (23, .iload 4), (25, .aaload), (26, .astore 5), (28, .aload 5), (30, .ifnull 6), (33, .iinc 1 1), (36, .iinc 4 1), (39, .goto (-23)), (42, .iload_n 1)]),
  (44, [(43, .ireturn)])]
theorem clo_X10_rooms : zk_okc cX10_rooms cl_X10_rooms = true := by decide +kernel
def rm_X10_rooms : Room := { frames := 0, cells := 0, slots := 0, locals := 0 }
def M_X10_rooms : zk_M := (zk_lkc cl_X10_rooms, zk_in [16], tb_X10, (some (.int), 0, 0), (zk_lka [], fun _ _ => none, zk_in [], zk_in [], zk_lka []))
theorem MO_X10_rooms : zk_MO RX10 cX10_rooms (yX10_rooms.name = "<init>") M_X10_rooms := zk_MO_of clo_X10_rooms rfl tbo_X10
theorem TO_X10_rooms : zk_TO RX10 cX10_rooms rm_X10_rooms M_X10_rooms := ⟨fun pc h => absurd (zk_in_mem h) List.not_mem_nil, fun pc h => absurd (zk_in_mem h) List.not_mem_nil, fun pc tag h => absurd (zk_lka_mem h) List.not_mem_nil⟩
theorem THo_X10_rooms : ∀ pc X, M_X10_rooms.2.2.2.2.1 pc = some X → zk_TH RX10 cX10_rooms rm_X10_rooms pc X := fun pc X h => absurd (zk_lka_mem h) List.not_mem_nil
def cl_X10_doors : List (Nat × List (Nat × Instr)) := [(11, [(0, .aload_n 0), (1, .getfield 12), (4, .iconst 0), (5, .bipush 40), (7, .invokevirtual 174), (10, .ireturn)])]
theorem clo_X10_doors : zk_okc cX10_doors cl_X10_doors = true := by decide +kernel
def rm_X10_doors : Room := { frames := 2, cells := 0, slots := 0, locals := 45 }
def M_X10_doors : zk_M := (zk_lkc cl_X10_doors, zk_in [], tb_X10, (some (.int), 0, 0), (zk_lka [], fun _ _ => none, zk_in [], zk_in [], zk_lka []))
theorem MO_X10_doors : zk_MO RX10 cX10_doors (yX10_doors.name = "<init>") M_X10_doors := zk_MO_of clo_X10_doors rfl tbo_X10
theorem TO_X10_doors : zk_TO RX10 cX10_doors rm_X10_doors M_X10_doors := ⟨fun pc h => absurd (zk_in_mem h) List.not_mem_nil, fun pc h => absurd (zk_in_mem h) List.not_mem_nil, fun pc tag h => absurd (zk_lka_mem h) List.not_mem_nil⟩
theorem THo_X10_doors : ∀ pc X, M_X10_doors.2.2.2.2.1 pc = some X → zk_TH RX10 cX10_doors rm_X10_doors pc X := fun pc X h => absurd (zk_lka_mem h) List.not_mem_nil
def cl_X10_stairs : List (Nat × List (Nat × Instr)) := [(12, [(0, .aload_n 0), (1, .getfield 12), (4, .bipush 40), (6, .bipush 50), (8, .invokevirtual 174), (11, .ireturn)])]
theorem clo_X10_stairs : zk_okc cX10_stairs cl_X10_stairs = true := by decide +kernel
def rm_X10_stairs : Room := { frames := 2, cells := 0, slots := 0, locals := 45 }
def M_X10_stairs : zk_M := (zk_lkc cl_X10_stairs, zk_in [], tb_X10, (some (.int), 0, 0), (zk_lka [], fun _ _ => none, zk_in [], zk_in [], zk_lka []))
theorem MO_X10_stairs : zk_MO RX10 cX10_stairs (yX10_stairs.name = "<init>") M_X10_stairs := zk_MO_of clo_X10_stairs rfl tbo_X10
theorem TO_X10_stairs : zk_TO RX10 cX10_stairs rm_X10_stairs M_X10_stairs := ⟨fun pc h => absurd (zk_in_mem h) List.not_mem_nil, fun pc h => absurd (zk_in_mem h) List.not_mem_nil, fun pc tag h => absurd (zk_lka_mem h) List.not_mem_nil⟩
theorem THo_X10_stairs : ∀ pc X, M_X10_stairs.2.2.2.2.1 pc = some X → zk_TH RX10 cX10_stairs rm_X10_stairs pc X := fun pc X h => absurd (zk_lka_mem h) List.not_mem_nil
def cl_X10_roomAt : List (Nat × List (Nat × Instr)) := [(21, [(0, .iload_n 1), (1, .iconst 0), (2, .iconst 2), (3, .invokestatic 41), (6, .ifCond .ne 13), (9, .new 45), (12, .dup), (13, .ldc 189), (15, .invokespecial 49), (18, .athrow), (19, .aload_n 0), (20, .getfield 12)]),
  (46, [(23, .getfield 72), (26, .astore 4), (28, .aload 4), (30, .arraylength), (31, .istore 5), (33, .iconst 0), (34, .istore 6), (36, .iload 6), (38, .iload 5), (40, .if_icmp .ge 46), (43, .aload 4), (45, .iload 6)]),
  (69, [(47, .aaload), (48, .astore 7), (50, .aload 7), (52, .ifnull 28), (55, .aload 7), (57, .getfield 105), (60, .iload_n 1), (61, .if_icmp .ne 19), (64, .aload 7), (66, .iload_n 2), (67, .iload_n 3), (68, .invokevirtual 191)]),
  (88, [(71, .ifCond .eq 9), (74, .aload 7), (76, .getfield 80), (79, .ireturn), (80, .iinc 6 1), (83, .goto (-47)), (86, .iconst (-1)), (87, .ireturn)])]
theorem clo_X10_roomAt : zk_okc cX10_roomAt cl_X10_roomAt = true := by decide +kernel
def rm_X10_roomAt : Room := { frames := 6, cells := 1, slots := 6, locals := 82 }
def M_X10_roomAt : zk_M := (zk_lkc cl_X10_roomAt, zk_in [36], tb_X10, (some (.int), 1, 6), (zk_lka [(9, "java/lang/IllegalArgumentException")], fun _ _ => none, zk_in [], zk_in [], zk_lka []))
theorem MO_X10_roomAt : zk_MO RX10 cX10_roomAt (yX10_roomAt.name = "<init>") M_X10_roomAt := zk_MO_of clo_X10_roomAt rfl tbo_X10
theorem TO_X10_roomAt : zk_TO RX10 cX10_roomAt rm_X10_roomAt M_X10_roomAt := ⟨fun pc h => absurd (zk_in_mem h) List.not_mem_nil, fun pc h => absurd (zk_in_mem h) List.not_mem_nil, fun pc tag h => absurd (zk_lka_mem h) List.not_mem_nil⟩
theorem TH_X10_roomAt_9 : zk_TH RX10 cX10_roomAt rm_X10_roomAt 9 "java/lang/IllegalArgumentException" := ⟨45, 189, 49, "no such floor", ["java/lang/RuntimeException", "java/lang/Exception"], zk_wi 403 (by decide +kernel) rfl, zk_wi 10 (by decide +kernel) rfl, by decide +kernel, ats_0, by decide +kernel, by decide +kernel, by decide, by decide, by decide +kernel, by decide +kernel, Or.inl ⟨by decide +kernel, by decide +kernel, by decide +kernel⟩⟩
theorem THo_X10_roomAt : ∀ pc X, M_X10_roomAt.2.2.2.2.1 pc = some X → zk_TH RX10 cX10_roomAt rm_X10_roomAt pc X := fun pc X h => by
    have h2 := zk_lka_mem h
    simp only [List.mem_cons, List.not_mem_nil, or_false, Prod.mk.injEq] at h2
    rcases h2 with ⟨rfl, rfl⟩
    exact TH_X10_roomAt_9
def cl_X10_areJoined : List (Nat × List (Nat × Instr)) := [(21, [(0, .aload_n 0), (1, .iload_n 1), (2, .invokevirtual 76), (5, .astore_n 3), (6, .aload_n 0), (7, .iload_n 2), (8, .invokevirtual 76), (11, .astore 4), (13, .aload_n 0), (14, .getfield 12), (17, .getfield 117), (20, .astore 5)]),
  (43, [(22, .aload 5), (24, .arraylength), (25, .istore 6), (27, .iconst 0), (28, .istore 7), (30, .iload 7), (32, .iload 6), (34, .if_icmp .ge 34), (37, .aload 5), (39, .iload 7), (41, .aaload), (42, .astore 8)]),
  (69, [(44, .aload 8), (46, .ifnull 16), (49, .aload 8), (51, .aload_n 3), (52, .aload 4), (54, .invokevirtual 194), (57, .ifCond .eq 5), (60, .iconst 1), (61, .ireturn), (62, .iinc 7 1), (65, .goto (-35)), (68, .iconst 0)]),
  (70, [(69, .ireturn)])]
theorem clo_X10_areJoined : zk_okc cX10_areJoined cl_X10_areJoined = true := by decide +kernel
def rm_X10_areJoined : Room := { frames := 7, cells := 2, slots := 12, locals := 104 }
def M_X10_areJoined : zk_M := (zk_lkc cl_X10_areJoined, zk_in [30], tb_X10, (some (.boolean), 2, 12), (zk_lka [], fun _ _ => none, zk_in [], zk_in [], zk_lka []))
theorem MO_X10_areJoined : zk_MO RX10 cX10_areJoined (yX10_areJoined.name = "<init>") M_X10_areJoined := zk_MO_of clo_X10_areJoined rfl tbo_X10
theorem TO_X10_areJoined : zk_TO RX10 cX10_areJoined rm_X10_areJoined M_X10_areJoined := ⟨fun pc h => absurd (zk_in_mem h) List.not_mem_nil, fun pc h => absurd (zk_in_mem h) List.not_mem_nil, fun pc tag h => absurd (zk_lka_mem h) List.not_mem_nil⟩
theorem THo_X10_areJoined : ∀ pc X, M_X10_areJoined.2.2.2.2.1 pc = some X → zk_TH RX10 cX10_areJoined rm_X10_areJoined pc X := fun pc X h => absurd (zk_lka_mem h) List.not_mem_nil
def cl_X10_isLost : List (Nat × List (Nat × Instr)) := [(22, [(0, .aload_n 0), (1, .iload_n 1), (2, .invokevirtual 76), (5, .astore_n 2), (6, .aload_n 0), (7, .invokevirtual 197), (10, .aload_n 0), (11, .getfield 19), (14, .getfield 200), (17, .aload_n 2), (18, .getfield 80), (21, .iaload)]),
  (32, [(22, .iconst (-1)), (23, .if_icmp .ne 7), (26, .iconst 1), (27, .goto 4), (30, .iconst 0), (31, .ireturn)])]
theorem clo_X10_isLost : zk_okc cX10_isLost cl_X10_isLost = true := by decide +kernel
def rm_X10_isLost : Room := { frames := 7, cells := 1, slots := 6, locals := 150 }
def M_X10_isLost : zk_M := (zk_lkc cl_X10_isLost, zk_in [], tb_X10, (some (.boolean), 1, 6), (zk_lka [], fun _ _ => none, zk_in [], zk_in [], zk_lka []))
theorem MO_X10_isLost : zk_MO RX10 cX10_isLost (yX10_isLost.name = "<init>") M_X10_isLost := zk_MO_of clo_X10_isLost rfl tbo_X10
theorem TO_X10_isLost : zk_TO RX10 cX10_isLost rm_X10_isLost M_X10_isLost := ⟨fun pc h => absurd (zk_in_mem h) List.not_mem_nil, fun pc h => absurd (zk_in_mem h) List.not_mem_nil, fun pc tag h => absurd (zk_lka_mem h) List.not_mem_nil⟩
theorem THo_X10_isLost : ∀ pc X, M_X10_isLost.2.2.2.2.1 pc = some X → zk_TH RX10 cX10_isLost rm_X10_isLost pc X := fun pc X h => absurd (zk_lka_mem h) List.not_mem_nil
def cl_X10_farWay : List (Nat × List (Nat × Instr)) := [(22, [(0, .aload_n 0), (1, .iload_n 1), (2, .invokevirtual 76), (5, .astore_n 2), (6, .aload_n 0), (7, .invokevirtual 197), (10, .aload_n 0), (11, .getfield 19), (14, .getfield 203), (17, .aload_n 2), (18, .getfield 80), (21, .iaload)]),
  (23, [(22, .ireturn)])]
theorem clo_X10_farWay : zk_okc cX10_farWay cl_X10_farWay = true := by decide +kernel
def rm_X10_farWay : Room := { frames := 7, cells := 1, slots := 6, locals := 150 }
def M_X10_farWay : zk_M := (zk_lkc cl_X10_farWay, zk_in [], tb_X10, (some (.int), 1, 6), (zk_lka [], fun _ _ => none, zk_in [], zk_in [], zk_lka []))
theorem MO_X10_farWay : zk_MO RX10 cX10_farWay (yX10_farWay.name = "<init>") M_X10_farWay := zk_MO_of clo_X10_farWay rfl tbo_X10
theorem TO_X10_farWay : zk_TO RX10 cX10_farWay rm_X10_farWay M_X10_farWay := ⟨fun pc h => absurd (zk_in_mem h) List.not_mem_nil, fun pc h => absurd (zk_in_mem h) List.not_mem_nil, fun pc tag h => absurd (zk_lka_mem h) List.not_mem_nil⟩
theorem THo_X10_farWay : ∀ pc X, M_X10_farWay.2.2.2.2.1 pc = some X → zk_TH RX10 cX10_farWay rm_X10_farWay pc X := fun pc X h => absurd (zk_lka_mem h) List.not_mem_nil
def cl_X10_leaving : List (Nat × List (Nat × Instr)) := [(19, [(0, .aload_n 0), (1, .iload_n 1), (2, .invokevirtual 76), (5, .astore_n 2), (6, .aload_n 0), (7, .invokevirtual 197), (10, .aload_n 0), (11, .aload_n 2), (12, .getfield 80), (15, .invokevirtual 206), (18, .ireturn)])]
theorem clo_X10_leaving : zk_okc cX10_leaving cl_X10_leaving = true := by decide +kernel
def rm_X10_leaving : Room := { frames := 7, cells := 1, slots := 6, locals := 150 }
def M_X10_leaving : zk_M := (zk_lkc cl_X10_leaving, zk_in [], tb_X10, (some (.int), 1, 6), (zk_lka [], fun _ _ => none, zk_in [], zk_in [], zk_lka []))
theorem MO_X10_leaving : zk_MO RX10 cX10_leaving (yX10_leaving.name = "<init>") M_X10_leaving := zk_MO_of clo_X10_leaving rfl tbo_X10
theorem TO_X10_leaving : zk_TO RX10 cX10_leaving rm_X10_leaving M_X10_leaving := ⟨fun pc h => absurd (zk_in_mem h) List.not_mem_nil, fun pc h => absurd (zk_in_mem h) List.not_mem_nil, fun pc tag h => absurd (zk_lka_mem h) List.not_mem_nil⟩
theorem THo_X10_leaving : ∀ pc X, M_X10_leaving.2.2.2.2.1 pc = some X → zk_TH RX10 cX10_leaving rm_X10_leaving pc X := fun pc X h => absurd (zk_lka_mem h) List.not_mem_nil
def cl_X10_middleWay : List (Nat × List (Nat × Instr)) := [(22, [(0, .aload_n 0), (1, .iload_n 1), (2, .invokevirtual 76), (5, .astore_n 2), (6, .aload_n 0), (7, .invokevirtual 197), (10, .aload_n 0), (11, .getfield 19), (14, .getfield 210), (17, .aload_n 2), (18, .getfield 80), (21, .iaload)]),
  (23, [(22, .ireturn)])]
theorem clo_X10_middleWay : zk_okc cX10_middleWay cl_X10_middleWay = true := by decide +kernel
def rm_X10_middleWay : Room := { frames := 7, cells := 1, slots := 6, locals := 150 }
def M_X10_middleWay : zk_M := (zk_lkc cl_X10_middleWay, zk_in [], tb_X10, (some (.int), 1, 6), (zk_lka [], fun _ _ => none, zk_in [], zk_in [], zk_lka []))
theorem MO_X10_middleWay : zk_MO RX10 cX10_middleWay (yX10_middleWay.name = "<init>") M_X10_middleWay := zk_MO_of clo_X10_middleWay rfl tbo_X10
theorem TO_X10_middleWay : zk_TO RX10 cX10_middleWay rm_X10_middleWay M_X10_middleWay := ⟨fun pc h => absurd (zk_in_mem h) List.not_mem_nil, fun pc h => absurd (zk_in_mem h) List.not_mem_nil, fun pc tag h => absurd (zk_lka_mem h) List.not_mem_nil⟩
theorem THo_X10_middleWay : ∀ pc X, M_X10_middleWay.2.2.2.2.1 pc = some X → zk_TH RX10 cX10_middleWay rm_X10_middleWay pc X := fun pc X h => absurd (zk_lka_mem h) List.not_mem_nil
def cl_X10_depth : List (Nat × List (Nat × Instr)) := [(22, [(0, .aload_n 0), (1, .iload_n 1), (2, .invokevirtual 76), (5, .astore_n 2), (6, .aload_n 0), (7, .invokevirtual 197), (10, .aload_n 0), (11, .getfield 19), (14, .getfield 213), (17, .aload_n 2), (18, .getfield 80), (21, .iaload)]),
  (23, [(22, .ireturn)])]
theorem clo_X10_depth : zk_okc cX10_depth cl_X10_depth = true := by decide +kernel
def rm_X10_depth : Room := { frames := 7, cells := 1, slots := 6, locals := 150 }
def M_X10_depth : zk_M := (zk_lkc cl_X10_depth, zk_in [], tb_X10, (some (.int), 1, 6), (zk_lka [], fun _ _ => none, zk_in [], zk_in [], zk_lka []))
theorem MO_X10_depth : zk_MO RX10 cX10_depth (yX10_depth.name = "<init>") M_X10_depth := zk_MO_of clo_X10_depth rfl tbo_X10
theorem TO_X10_depth : zk_TO RX10 cX10_depth rm_X10_depth M_X10_depth := ⟨fun pc h => absurd (zk_in_mem h) List.not_mem_nil, fun pc h => absurd (zk_in_mem h) List.not_mem_nil, fun pc tag h => absurd (zk_lka_mem h) List.not_mem_nil⟩
theorem THo_X10_depth : ∀ pc X, M_X10_depth.2.2.2.2.1 pc = some X → zk_TH RX10 cX10_depth rm_X10_depth pc X := fun pc X h => absurd (zk_lka_mem h) List.not_mem_nil
def cl_X10_way : List (Nat × List (Nat × Instr)) := [(22, [(0, .aload_n 0), (1, .iload_n 1), (2, .invokevirtual 167), (5, .pop), (6, .aload_n 0), (7, .invokevirtual 197), (10, .iload_n 2), (11, .ifCond .eq 15), (14, .aload_n 0), (15, .getfield 19), (18, .getfield 216), (21, .iload_n 1)]),
  (36, [(22, .iaload), (23, .goto 12), (26, .aload_n 0), (27, .getfield 19), (30, .getfield 219), (33, .iload_n 1), (34, .iaload), (35, .ireturn)])]
theorem clo_X10_way : zk_okc cX10_way cl_X10_way = true := by decide +kernel
def rm_X10_way : Room := { frames := 7, cells := 1, slots := 6, locals := 150 }
def M_X10_way : zk_M := (zk_lkc cl_X10_way, zk_in [], tb_X10, (some (.int), 1, 6), (zk_lka [], fun _ _ => none, zk_in [], zk_in [], zk_lka []))
theorem MO_X10_way : zk_MO RX10 cX10_way (yX10_way.name = "<init>") M_X10_way := zk_MO_of clo_X10_way rfl tbo_X10
theorem TO_X10_way : zk_TO RX10 cX10_way rm_X10_way M_X10_way := ⟨fun pc h => absurd (zk_in_mem h) List.not_mem_nil, fun pc h => absurd (zk_in_mem h) List.not_mem_nil, fun pc tag h => absurd (zk_lka_mem h) List.not_mem_nil⟩
theorem THo_X10_way : ∀ pc X, M_X10_way.2.2.2.2.1 pc = some X → zk_TH RX10 cX10_way rm_X10_way pc X := fun pc X h => absurd (zk_lka_mem h) List.not_mem_nil
def cl_X10_load : List (Nat × List (Nat × Instr)) := [(20, [(0, .aload_n 0), (1, .iload_n 1), (2, .invokevirtual 167), (5, .pop), (6, .aload_n 0), (7, .invokevirtual 197), (10, .aload_n 0), (11, .getfield 19), (14, .getfield 222), (17, .iload_n 1), (18, .iaload), (19, .ireturn)])]
theorem clo_X10_load : zk_okc cX10_load cl_X10_load = true := by decide +kernel
def rm_X10_load : Room := { frames := 7, cells := 1, slots := 6, locals := 150 }
def M_X10_load : zk_M := (zk_lkc cl_X10_load, zk_in [], tb_X10, (some (.int), 1, 6), (zk_lka [], fun _ _ => none, zk_in [], zk_in [], zk_lka []))
theorem MO_X10_load : zk_MO RX10 cX10_load (yX10_load.name = "<init>") M_X10_load := zk_MO_of clo_X10_load rfl tbo_X10
theorem TO_X10_load : zk_TO RX10 cX10_load rm_X10_load M_X10_load := ⟨fun pc h => absurd (zk_in_mem h) List.not_mem_nil, fun pc h => absurd (zk_in_mem h) List.not_mem_nil, fun pc tag h => absurd (zk_lka_mem h) List.not_mem_nil⟩
theorem THo_X10_load : ∀ pc X, M_X10_load.2.2.2.2.1 pc = some X → zk_TH RX10 cX10_load rm_X10_load pc X := fun pc X h => absurd (zk_lka_mem h) List.not_mem_nil
def cl_X10_stairsLoad : List (Nat × List (Nat × Instr)) := [(23, [(0, .iload_n 1), (1, .iconst 0), (2, .bipush 9), (4, .invokestatic 41), (7, .ifCond .eq 15), (10, .aload_n 0), (11, .getfield 12), (14, .getfield 158), (17, .iload_n 1), (18, .aaload), (19, .ifnonnull 13), (22, .new 182)]),
  (47, [(25, .dup), (26, .ldc 225), (28, .invokespecial 186), (31, .athrow), (32, .aload_n 0), (33, .invokevirtual 197), (36, .aload_n 0), (37, .getfield 19), (40, .getfield 222), (43, .bipush 40), (45, .iload_n 1), (46, .iadd)]),
  (49, [(47, .iaload), (48, .ireturn)])]
theorem clo_X10_stairsLoad : zk_okc cX10_stairsLoad cl_X10_stairsLoad = true := by decide +kernel
def rm_X10_stairsLoad : Room := { frames := 6, cells := 1, slots := 6, locals := 150 }
def M_X10_stairsLoad : zk_M := (zk_lkc cl_X10_stairsLoad, zk_in [], tb_X10, (some (.int), 1, 6), (zk_lka [(22, "java/lang/IndexOutOfBoundsException")], fun _ _ => none, zk_in [], zk_in [], zk_lka []))
theorem MO_X10_stairsLoad : zk_MO RX10 cX10_stairsLoad (yX10_stairsLoad.name = "<init>") M_X10_stairsLoad := zk_MO_of clo_X10_stairsLoad rfl tbo_X10
theorem TO_X10_stairsLoad : zk_TO RX10 cX10_stairsLoad rm_X10_stairsLoad M_X10_stairsLoad := ⟨fun pc h => absurd (zk_in_mem h) List.not_mem_nil, fun pc h => absurd (zk_in_mem h) List.not_mem_nil, fun pc tag h => absurd (zk_lka_mem h) List.not_mem_nil⟩
theorem TH_X10_stairsLoad_22 : zk_TH RX10 cX10_stairsLoad rm_X10_stairsLoad 22 "java/lang/IndexOutOfBoundsException" := ⟨182, 225, 186, "no such stairs", ["java/lang/RuntimeException", "java/lang/Exception"], zk_wi 554 (by decide +kernel) rfl, zk_wi 14 (by decide +kernel) rfl, by decide +kernel, ats_2, by decide +kernel, by decide +kernel, by decide, by decide, by decide +kernel, by decide +kernel, Or.inl ⟨by decide +kernel, by decide +kernel, by decide +kernel⟩⟩
theorem THo_X10_stairsLoad : ∀ pc X, M_X10_stairsLoad.2.2.2.2.1 pc = some X → zk_TH RX10 cX10_stairsLoad rm_X10_stairsLoad pc X := fun pc X h => by
    have h2 := zk_lka_mem h
    simp only [List.mem_cons, List.not_mem_nil, or_false, Prod.mk.injEq] at h2
    rcases h2 with ⟨rfl, rfl⟩
    exact TH_X10_stairsLoad_22
def cl_X10_timeOut : List (Nat × List (Nat × Instr)) := [(20, [(0, .aload_n 0), (1, .invokevirtual 197), (4, .aload_n 0), (5, .getfield 26), (8, .aload_n 0), (9, .getfield 12), (12, .aload_n 0), (13, .getfield 19), (16, .invokevirtual 227), (19, .ireturn)])]
theorem clo_X10_timeOut : zk_okc cX10_timeOut cl_X10_timeOut = true := by decide +kernel
def rm_X10_timeOut : Room := { frames := 6, cells := 0, slots := 0, locals := 150 }
def M_X10_timeOut : zk_M := (zk_lkc cl_X10_timeOut, zk_in [], tb_X10, (some (.int), 0, 0), (zk_lka [], fun _ _ => none, zk_in [], zk_in [], zk_lka []))
theorem MO_X10_timeOut : zk_MO RX10 cX10_timeOut (yX10_timeOut.name = "<init>") M_X10_timeOut := zk_MO_of clo_X10_timeOut rfl tbo_X10
theorem TO_X10_timeOut : zk_TO RX10 cX10_timeOut rm_X10_timeOut M_X10_timeOut := ⟨fun pc h => absurd (zk_in_mem h) List.not_mem_nil, fun pc h => absurd (zk_in_mem h) List.not_mem_nil, fun pc tag h => absurd (zk_lka_mem h) List.not_mem_nil⟩
theorem THo_X10_timeOut : ∀ pc X, M_X10_timeOut.2.2.2.2.1 pc = some X → zk_TH RX10 cX10_timeOut rm_X10_timeOut pc X := fun pc X h => absurd (zk_lka_mem h) List.not_mem_nil
def cl_X10_left : List (Nat × List (Nat × Instr)) := [(22, [(0, .iload_n 1), (1, .invokestatic 231), (4, .aload_n 0), (5, .invokevirtual 197), (8, .aload_n 0), (9, .getfield 26), (12, .aload_n 0), (13, .getfield 12), (16, .aload_n 0), (17, .getfield 19), (20, .iload_n 1), (21, .invokevirtual 235)]),
  (32, [(24, .aload_n 0), (25, .getfield 26), (28, .invokevirtual 239), (31, .ireturn)])]
theorem clo_X10_left : zk_okc cX10_left cl_X10_left = true := by decide +kernel
def rm_X10_left : Room := { frames := 7, cells := 1, slots := 6, locals := 150 }
def M_X10_left : zk_M := (zk_lkc cl_X10_left, zk_in [], tb_X10, (some (.int), 1, 6), (zk_lka [], fun _ _ => none, zk_in [], zk_in [], zk_lka []))
theorem MO_X10_left : zk_MO RX10 cX10_left (yX10_left.name = "<init>") M_X10_left := zk_MO_of clo_X10_left rfl tbo_X10
theorem TO_X10_left : zk_TO RX10 cX10_left rm_X10_left M_X10_left := ⟨fun pc h => absurd (zk_in_mem h) List.not_mem_nil, fun pc h => absurd (zk_in_mem h) List.not_mem_nil, fun pc tag h => absurd (zk_lka_mem h) List.not_mem_nil⟩
theorem THo_X10_left : ∀ pc X, M_X10_left.2.2.2.2.1 pc = some X → zk_TH RX10 cX10_left rm_X10_left pc X := fun pc X h => absurd (zk_lka_mem h) List.not_mem_nil
def cl_X10_inRoom : List (Nat × List (Nat × Instr)) := [(20, [(0, .aload_n 0), (1, .iload_n 1), (2, .invokevirtual 76), (5, .astore_n 3), (6, .iload_n 2), (7, .invokestatic 231), (10, .aload_n 0), (11, .invokevirtual 197), (14, .aload_n 0), (15, .getfield 26), (18, .aload_n 0), (19, .getfield 12)]),
  (43, [(22, .aload_n 0), (23, .getfield 19), (26, .iload_n 2), (27, .invokevirtual 235), (30, .aload_n 0), (31, .getfield 26), (34, .getfield 243), (37, .aload_n 3), (38, .getfield 80), (41, .iaload), (42, .ireturn)])]
theorem clo_X10_inRoom : zk_okc cX10_inRoom cl_X10_inRoom = true := by decide +kernel
def rm_X10_inRoom : Room := { frames := 7, cells := 2, slots := 12, locals := 150 }
def M_X10_inRoom : zk_M := (zk_lkc cl_X10_inRoom, zk_in [], tb_X10, (some (.int), 2, 12), (zk_lka [], fun _ _ => none, zk_in [], zk_in [], zk_lka []))
theorem MO_X10_inRoom : zk_MO RX10 cX10_inRoom (yX10_inRoom.name = "<init>") M_X10_inRoom := zk_MO_of clo_X10_inRoom rfl tbo_X10
theorem TO_X10_inRoom : zk_TO RX10 cX10_inRoom rm_X10_inRoom M_X10_inRoom := ⟨fun pc h => absurd (zk_in_mem h) List.not_mem_nil, fun pc h => absurd (zk_in_mem h) List.not_mem_nil, fun pc tag h => absurd (zk_lka_mem h) List.not_mem_nil⟩
theorem THo_X10_inRoom : ∀ pc X, M_X10_inRoom.2.2.2.2.1 pc = some X → zk_TH RX10 cX10_inRoom rm_X10_inRoom pc X := fun pc X h => absurd (zk_lka_mem h) List.not_mem_nil
def cl_X10_faults : List (Nat × List (Nat × Instr)) := [(12, [(0, .aload_n 0), (1, .invokevirtual 197), (4, .aload_n 0), (5, .getfield 33), (8, .getfield 246), (11, .ireturn)])]
theorem clo_X10_faults : zk_okc cX10_faults cl_X10_faults = true := by decide +kernel
def rm_X10_faults : Room := { frames := 6, cells := 0, slots := 0, locals := 150 }
def M_X10_faults : zk_M := (zk_lkc cl_X10_faults, zk_in [], tb_X10, (some (.int), 0, 0), (zk_lka [], fun _ _ => none, zk_in [], zk_in [], zk_lka []))
theorem MO_X10_faults : zk_MO RX10 cX10_faults (yX10_faults.name = "<init>") M_X10_faults := zk_MO_of clo_X10_faults rfl tbo_X10
theorem TO_X10_faults : zk_TO RX10 cX10_faults rm_X10_faults M_X10_faults := ⟨fun pc h => absurd (zk_in_mem h) List.not_mem_nil, fun pc h => absurd (zk_in_mem h) List.not_mem_nil, fun pc tag h => absurd (zk_lka_mem h) List.not_mem_nil⟩
theorem THo_X10_faults : ∀ pc X, M_X10_faults.2.2.2.2.1 pc = some X → zk_TH RX10 cX10_faults rm_X10_faults pc X := fun pc X h => absurd (zk_lka_mem h) List.not_mem_nil
def cl_X10_ruleOf : List (Nat × List (Nat × Instr)) := [(19, [(0, .aload_n 0), (1, .invokevirtual 197), (4, .aload_n 0), (5, .iload_n 1), (6, .invokevirtual 249), (9, .aload_n 0), (10, .getfield 33), (13, .getfield 252), (16, .iload_n 1), (17, .iaload), (18, .ireturn)])]
theorem clo_X10_ruleOf : zk_okc cX10_ruleOf cl_X10_ruleOf = true := by decide +kernel
def rm_X10_ruleOf : Room := { frames := 7, cells := 1, slots := 6, locals := 150 }
def M_X10_ruleOf : zk_M := (zk_lkc cl_X10_ruleOf, zk_in [], tb_X10, (some (.int), 1, 6), (zk_lka [], fun _ _ => none, zk_in [], zk_in [], zk_lka []))
theorem MO_X10_ruleOf : zk_MO RX10 cX10_ruleOf (yX10_ruleOf.name = "<init>") M_X10_ruleOf := zk_MO_of clo_X10_ruleOf rfl tbo_X10
theorem TO_X10_ruleOf : zk_TO RX10 cX10_ruleOf rm_X10_ruleOf M_X10_ruleOf := ⟨fun pc h => absurd (zk_in_mem h) List.not_mem_nil, fun pc h => absurd (zk_in_mem h) List.not_mem_nil, fun pc tag h => absurd (zk_lka_mem h) List.not_mem_nil⟩
theorem THo_X10_ruleOf : ∀ pc X, M_X10_ruleOf.2.2.2.2.1 pc = some X → zk_TH RX10 cX10_ruleOf rm_X10_ruleOf pc X := fun pc X h => absurd (zk_lka_mem h) List.not_mem_nil
def cl_X10_whereOf : List (Nat × List (Nat × Instr)) := [(19, [(0, .aload_n 0), (1, .invokevirtual 197), (4, .aload_n 0), (5, .iload_n 1), (6, .invokevirtual 249), (9, .aload_n 0), (10, .getfield 33), (13, .getfield 255), (16, .iload_n 1), (17, .iaload), (18, .ireturn)])]
theorem clo_X10_whereOf : zk_okc cX10_whereOf cl_X10_whereOf = true := by decide +kernel
def rm_X10_whereOf : Room := { frames := 7, cells := 1, slots := 6, locals := 150 }
def M_X10_whereOf : zk_M := (zk_lkc cl_X10_whereOf, zk_in [], tb_X10, (some (.int), 1, 6), (zk_lka [], fun _ _ => none, zk_in [], zk_in [], zk_lka []))
theorem MO_X10_whereOf : zk_MO RX10 cX10_whereOf (yX10_whereOf.name = "<init>") M_X10_whereOf := zk_MO_of clo_X10_whereOf rfl tbo_X10
theorem TO_X10_whereOf : zk_TO RX10 cX10_whereOf rm_X10_whereOf M_X10_whereOf := ⟨fun pc h => absurd (zk_in_mem h) List.not_mem_nil, fun pc h => absurd (zk_in_mem h) List.not_mem_nil, fun pc tag h => absurd (zk_lka_mem h) List.not_mem_nil⟩
theorem THo_X10_whereOf : ∀ pc X, M_X10_whereOf.2.2.2.2.1 pc = some X → zk_TH RX10 cX10_whereOf rm_X10_whereOf pc X := fun pc X h => absurd (zk_lka_mem h) List.not_mem_nil
def cl_X10_howMuch : List (Nat × List (Nat × Instr)) := [(19, [(0, .aload_n 0), (1, .invokevirtual 197), (4, .aload_n 0), (5, .iload_n 1), (6, .invokevirtual 249), (9, .aload_n 0), (10, .getfield 33), (13, .getfield 258), (16, .iload_n 1), (17, .iaload), (18, .ireturn)])]
theorem clo_X10_howMuch : zk_okc cX10_howMuch cl_X10_howMuch = true := by decide +kernel
def rm_X10_howMuch : Room := { frames := 7, cells := 1, slots := 6, locals := 150 }
def M_X10_howMuch : zk_M := (zk_lkc cl_X10_howMuch, zk_in [], tb_X10, (some (.int), 1, 6), (zk_lka [], fun _ _ => none, zk_in [], zk_in [], zk_lka []))
theorem MO_X10_howMuch : zk_MO RX10 cX10_howMuch (yX10_howMuch.name = "<init>") M_X10_howMuch := zk_MO_of clo_X10_howMuch rfl tbo_X10
theorem TO_X10_howMuch : zk_TO RX10 cX10_howMuch rm_X10_howMuch M_X10_howMuch := ⟨fun pc h => absurd (zk_in_mem h) List.not_mem_nil, fun pc h => absurd (zk_in_mem h) List.not_mem_nil, fun pc tag h => absurd (zk_lka_mem h) List.not_mem_nil⟩
theorem THo_X10_howMuch : ∀ pc X, M_X10_howMuch.2.2.2.2.1 pc = some X → zk_TH RX10 cX10_howMuch rm_X10_howMuch pc X := fun pc X h => absurd (zk_lka_mem h) List.not_mem_nil
def cl_X10_broken : List (Nat × List (Nat × Instr)) := [(22, [(0, .iload_n 1), (1, .iconst 0), (2, .aload_n 0), (3, .getfield 12), (6, .getfield 178), (9, .arraylength), (10, .iconst 1), (11, .isub), (12, .invokestatic 41), (15, .ifCond .ne 13), (18, .new 182), (21, .dup)]),
  (41, [(22, .ldc 184), (24, .invokespecial 186), (27, .athrow), (28, .aload_n 0), (29, .invokevirtual 197), (32, .aload_n 0), (33, .getfield 33), (36, .iload_n 1), (37, .invokevirtual 261), (40, .ireturn)])]
theorem clo_X10_broken : zk_okc cX10_broken cl_X10_broken = true := by decide +kernel
def rm_X10_broken : Room := { frames := 6, cells := 1, slots := 6, locals := 150 }
def M_X10_broken : zk_M := (zk_lkc cl_X10_broken, zk_in [], tb_X10, (some (.int), 1, 6), (zk_lka [(18, "java/lang/IndexOutOfBoundsException")], fun _ _ => none, zk_in [], zk_in [], zk_lka []))
theorem MO_X10_broken : zk_MO RX10 cX10_broken (yX10_broken.name = "<init>") M_X10_broken := zk_MO_of clo_X10_broken rfl tbo_X10
theorem TO_X10_broken : zk_TO RX10 cX10_broken rm_X10_broken M_X10_broken := ⟨fun pc h => absurd (zk_in_mem h) List.not_mem_nil, fun pc h => absurd (zk_in_mem h) List.not_mem_nil, fun pc tag h => absurd (zk_lka_mem h) List.not_mem_nil⟩
theorem TH_X10_broken_18 : zk_TH RX10 cX10_broken rm_X10_broken 18 "java/lang/IndexOutOfBoundsException" := ⟨182, 184, 186, "no such rule", ["java/lang/RuntimeException", "java/lang/Exception"], zk_wi 554 (by decide +kernel) rfl, zk_wi 14 (by decide +kernel) rfl, by decide +kernel, ats_2, by decide +kernel, by decide +kernel, by decide, by decide, by decide +kernel, by decide +kernel, Or.inl ⟨by decide +kernel, by decide +kernel, by decide +kernel⟩⟩
theorem THo_X10_broken : ∀ pc X, M_X10_broken.2.2.2.2.1 pc = some X → zk_TH RX10 cX10_broken rm_X10_broken pc X := fun pc X h => by
    have h2 := zk_lka_mem h
    simp only [List.mem_cons, List.not_mem_nil, or_false, Prod.mk.injEq] at h2
    rcases h2 with ⟨rfl, rfl⟩
    exact TH_X10_broken_18
def cl_X10_meanWay : List (Nat × List (Nat × Instr)) := [(18, [(0, .aload_n 0), (1, .invokevirtual 197), (4, .iconst 0), (5, .istore_n 1), (6, .iconst 0), (7, .istore_n 2), (8, .aload_n 0), (9, .getfield 12), (12, .getfield 72), (15, .astore_n 3), (16, .aload_n 3), (17, .arraylength)]),
  (39, [(18, .istore 4), (20, .iconst 0), (21, .istore 5), (23, .iload 5), (25, .iload 4), (27, .if_icmp .ge 67), (30, .aload_n 3), (31, .iload 5), (33, .aaload), (34, .astore 6), (36, .aload 6), (38, .ifnull 50)]),
  (65, [(41, .aload_n 0), (42, .getfield 19), (45, .getfield 200), (48, .aload 6), (50, .getfield 80), (53, .iaload), (54, .iconst (-1)), (55, .if_icmp .eq 33), (58, .iload_n 1), (59, .aload 6), (61, .getfield 89), (64, .iadd)]),
  (87, [(65, .istore_n 1), (66, .iload_n 2), (67, .aload 6), (69, .getfield 89), (72, .aload_n 0), (73, .getfield 19), (76, .getfield 210), (79, .aload 6), (81, .getfield 80), (84, .iaload), (85, .imul), (86, .iadd)]),
  (107, [(87, .istore_n 2), (88, .iinc 5 1), (91, .goto (-68)), (94, .iload_n 1), (95, .ifCond .ne 7), (98, .dconst 0), (99, .goto 8), (102, .iload_n 2), (103, .i2d), (104, .iload_n 1), (105, .i2d), (106, .ddiv)]),
  (108, [(107, .dreturn)])]
theorem clo_X10_meanWay : zk_okc cX10_meanWay cl_X10_meanWay = true := by decide +kernel
def rm_X10_meanWay : Room := { frames := 6, cells := 0, slots := 0, locals := 150 }
def M_X10_meanWay : zk_M := (zk_lkc cl_X10_meanWay, zk_in [23], tb_X10, (some (.double), 0, 0), (zk_lka [], fun _ _ => none, zk_in [], zk_in [], zk_lka []))
theorem MO_X10_meanWay : zk_MO RX10 cX10_meanWay (yX10_meanWay.name = "<init>") M_X10_meanWay := zk_MO_of clo_X10_meanWay rfl tbo_X10
theorem TO_X10_meanWay : zk_TO RX10 cX10_meanWay rm_X10_meanWay M_X10_meanWay := ⟨fun pc h => absurd (zk_in_mem h) List.not_mem_nil, fun pc h => absurd (zk_in_mem h) List.not_mem_nil, fun pc tag h => absurd (zk_lka_mem h) List.not_mem_nil⟩
theorem THo_X10_meanWay : ∀ pc X, M_X10_meanWay.2.2.2.2.1 pc = some X → zk_TH RX10 cX10_meanWay rm_X10_meanWay pc X := fun pc X h => absurd (zk_lka_mem h) List.not_mem_nil
def cl_X10_faultsWith : List (Nat × List (Nat × Instr)) := [(20, [(0, .aload_n 0), (1, .iload_n 1), (2, .invokevirtual 167), (5, .astore_n 2), (6, .aload_n 0), (7, .aload_n 2), (8, .invokevirtual 264), (11, .aload_n 0), (12, .invokevirtual 197), (15, .aload_n 0), (16, .getfield 33), (19, .getfield 246)]),
  (30, [(22, .istore_n 3), (23, .aload_n 0), (24, .aload_n 2), (25, .invokevirtual 264), (28, .iload_n 3), (29, .ireturn)])]
theorem clo_X10_faultsWith : zk_okc cX10_faultsWith cl_X10_faultsWith = true := by decide +kernel
def rm_X10_faultsWith : Room := { frames := 7, cells := 1, slots := 6, locals := 150 }
def M_X10_faultsWith : zk_M := (zk_lkc cl_X10_faultsWith, zk_in [], tb_X10, (some (.int), 1, 6), (zk_lka [], fun _ _ => none, zk_in [], zk_in [], zk_lka []))
theorem MO_X10_faultsWith : zk_MO RX10 cX10_faultsWith (yX10_faultsWith.name = "<init>") M_X10_faultsWith := zk_MO_of clo_X10_faultsWith rfl tbo_X10
theorem TO_X10_faultsWith : zk_TO RX10 cX10_faultsWith rm_X10_faultsWith M_X10_faultsWith := ⟨fun pc h => absurd (zk_in_mem h) List.not_mem_nil, fun pc h => absurd (zk_in_mem h) List.not_mem_nil, fun pc tag h => absurd (zk_lka_mem h) List.not_mem_nil⟩
theorem THo_X10_faultsWith : ∀ pc X, M_X10_faultsWith.2.2.2.2.1 pc = some X → zk_TH RX10 cX10_faultsWith rm_X10_faultsWith pc X := fun pc X h => absurd (zk_lka_mem h) List.not_mem_nil
def cl_X10_lostWithout : List (Nat × List (Nat × Instr)) := [(20, [(0, .aload_n 0), (1, .iload_n 1), (2, .invokevirtual 167), (5, .astore_n 2), (6, .aload_n 2), (7, .getfield 171), (10, .ifCond .eq 5), (13, .iconst 0), (14, .ireturn), (15, .aload_n 0), (16, .invokevirtual 197), (19, .aload_n 0)]),
  (42, [(20, .getfield 19), (23, .aload_n 0), (24, .getfield 12), (27, .invokevirtual 268), (30, .istore_n 3), (31, .aload_n 0), (32, .aload_n 2), (33, .invokevirtual 264), (36, .aload_n 0), (37, .invokevirtual 197), (40, .aload_n 0), (41, .getfield 19)]),
  (63, [(44, .aload_n 0), (45, .getfield 12), (48, .invokevirtual 268), (51, .istore 4), (53, .aload_n 0), (54, .aload_n 2), (55, .invokevirtual 264), (58, .iload 4), (60, .iload_n 3), (61, .isub), (62, .ireturn)])]
theorem clo_X10_lostWithout : zk_okc cX10_lostWithout cl_X10_lostWithout = true := by decide +kernel
def rm_X10_lostWithout : Room := { frames := 7, cells := 1, slots := 6, locals := 150 }
def M_X10_lostWithout : zk_M := (zk_lkc cl_X10_lostWithout, zk_in [], tb_X10, (some (.int), 1, 6), (zk_lka [], fun _ _ => none, zk_in [], zk_in [], zk_lka []))
theorem MO_X10_lostWithout : zk_MO RX10 cX10_lostWithout (yX10_lostWithout.name = "<init>") M_X10_lostWithout := zk_MO_of clo_X10_lostWithout rfl tbo_X10
theorem TO_X10_lostWithout : zk_TO RX10 cX10_lostWithout rm_X10_lostWithout M_X10_lostWithout := ⟨fun pc h => absurd (zk_in_mem h) List.not_mem_nil, fun pc h => absurd (zk_in_mem h) List.not_mem_nil, fun pc tag h => absurd (zk_lka_mem h) List.not_mem_nil⟩
theorem THo_X10_lostWithout : ∀ pc X, M_X10_lostWithout.2.2.2.2.1 pc = some X → zk_TH RX10 cX10_lostWithout rm_X10_lostWithout pc X := fun pc X h => absurd (zk_lka_mem h) List.not_mem_nil
def cl_X10_timeWith : List (Nat × List (Nat × Instr)) := [(21, [(0, .aload_n 0), (1, .iload_n 1), (2, .invokevirtual 167), (5, .astore_n 3), (6, .iload_n 2), (7, .iconst 1), (8, .bipush 6), (10, .invokestatic 41), (13, .ifCond .ne 14), (16, .new 45), (19, .dup), (20, .ldc_w 272)]),
  (42, [(23, .invokespecial 49), (26, .athrow), (27, .aload_n 0), (28, .invokevirtual 197), (31, .aload_n 3), (32, .getfield 274), (35, .istore 4), (37, .aload_n 3), (38, .iload_n 2), (39, .iconst 2), (40, .imul), (41, .putfield 274)]),
  (68, [(44, .aload_n 0), (45, .getfield 26), (48, .aload_n 0), (49, .getfield 12), (52, .aload_n 0), (53, .getfield 19), (56, .invokevirtual 227), (59, .istore 5), (61, .aload_n 3), (62, .iload 4), (64, .putfield 274), (67, .iload 5)]),
  (70, [(69, .ireturn)])]
theorem clo_X10_timeWith : zk_okc cX10_timeWith cl_X10_timeWith = true := by decide +kernel
def rm_X10_timeWith : Room := { frames := 7, cells := 2, slots := 12, locals := 150 }
def M_X10_timeWith : zk_M := (zk_lkc cl_X10_timeWith, zk_in [], tb_X10, (some (.int), 2, 12), (zk_lka [(16, "java/lang/IllegalArgumentException")], fun _ _ => none, zk_in [], zk_in [], zk_lka []))
theorem MO_X10_timeWith : zk_MO RX10 cX10_timeWith (yX10_timeWith.name = "<init>") M_X10_timeWith := zk_MO_of clo_X10_timeWith rfl tbo_X10
theorem TO_X10_timeWith : zk_TO RX10 cX10_timeWith rm_X10_timeWith M_X10_timeWith := ⟨fun pc h => absurd (zk_in_mem h) List.not_mem_nil, fun pc h => absurd (zk_in_mem h) List.not_mem_nil, fun pc tag h => absurd (zk_lka_mem h) List.not_mem_nil⟩
theorem TH_X10_timeWith_16 : zk_TH RX10 cX10_timeWith rm_X10_timeWith 16 "java/lang/IllegalArgumentException" := ⟨45, 272, 49, "a door is 1 to 6 wide", ["java/lang/RuntimeException", "java/lang/Exception"], zk_wi 403 (by decide +kernel) rfl, zk_wi 10 (by decide +kernel) rfl, by decide +kernel, ats_0, by decide +kernel, by decide +kernel, by decide, by decide, by decide +kernel, by decide +kernel, Or.inr ⟨by decide +kernel, by decide +kernel, by decide +kernel⟩⟩
theorem THo_X10_timeWith : ∀ pc X, M_X10_timeWith.2.2.2.2.1 pc = some X → zk_TH RX10 cX10_timeWith rm_X10_timeWith pc X := fun pc X h => by
    have h2 := zk_lka_mem h
    simp only [List.mem_cons, List.not_mem_nil, or_false, Prod.mk.injEq] at h2
    rcases h2 with ⟨rfl, rfl⟩
    exact TH_X10_timeWith_16
def cl_X10_mostPeople : List (Nat × List (Nat × Instr)) := [(10, [(0, .aload_n 0), (1, .aload_n 0), (2, .iload_n 1), (3, .invokevirtual 76), (6, .invokevirtual 277), (9, .ireturn)])]
theorem clo_X10_mostPeople : zk_okc cX10_mostPeople cl_X10_mostPeople = true := by decide +kernel
def rm_X10_mostPeople : Room := { frames := 7, cells := 1, slots := 6, locals := 104 }
def M_X10_mostPeople : zk_M := (zk_lkc cl_X10_mostPeople, zk_in [], tb_X10, (some (.int), 1, 6), (zk_lka [], fun _ _ => none, zk_in [], zk_in [], zk_lka []))
theorem MO_X10_mostPeople : zk_MO RX10 cX10_mostPeople (yX10_mostPeople.name = "<init>") M_X10_mostPeople := zk_MO_of clo_X10_mostPeople rfl tbo_X10
theorem TO_X10_mostPeople : zk_TO RX10 cX10_mostPeople rm_X10_mostPeople M_X10_mostPeople := ⟨fun pc h => absurd (zk_in_mem h) List.not_mem_nil, fun pc h => absurd (zk_in_mem h) List.not_mem_nil, fun pc tag h => absurd (zk_lka_mem h) List.not_mem_nil⟩
theorem THo_X10_mostPeople : ∀ pc X, M_X10_mostPeople.2.2.2.2.1 pc = some X → zk_TH RX10 cX10_mostPeople rm_X10_mostPeople pc X := fun pc X h => absurd (zk_lka_mem h) List.not_mem_nil
def cl_X10_digest : List (Nat × List (Nat × Instr)) := [(20, [(0, .aload_n 0), (1, .invokevirtual 197), (4, .ldc2_w 280), (7, .lstore_n 1), (8, .lload_n 1), (9, .aload_n 0), (10, .invokevirtual 282), (13, .i2l), (14, .invokestatic 284), (17, .lstore_n 1), (18, .lload_n 1), (19, .aload_n 0)]),
  (40, [(20, .invokevirtual 288), (23, .i2l), (24, .invokestatic 284), (27, .lstore_n 1), (28, .lload_n 1), (29, .aload_n 0), (30, .invokevirtual 290), (33, .i2l), (34, .invokestatic 284), (37, .lstore_n 1), (38, .lload_n 1), (39, .aload_n 0)]),
  (64, [(40, .getfield 26), (43, .aload_n 0), (44, .getfield 12), (47, .aload_n 0), (48, .getfield 19), (51, .invokevirtual 227), (54, .i2l), (55, .invokestatic 284), (58, .lstore_n 1), (59, .aload_n 0), (60, .getfield 26), (63, .aload_n 0)]),
  (88, [(64, .getfield 12), (67, .aload_n 0), (68, .getfield 19), (71, .iconst 3), (72, .invokevirtual 235), (75, .lload_n 1), (76, .aload_n 0), (77, .getfield 26), (80, .invokevirtual 239), (83, .i2l), (84, .invokestatic 284), (87, .lstore_n 1)]),
  (106, [(88, .aload_n 0), (89, .lload_n 1), (90, .invokevirtual 292), (93, .lstore_n 1), (94, .aload_n 0), (95, .lload_n 1), (96, .invokevirtual 296), (99, .lstore_n 1), (100, .aload_n 0), (101, .lload_n 1), (102, .invokevirtual 299), (105, .lreturn)])]
theorem clo_X10_digest : zk_okc cX10_digest cl_X10_digest = true := by decide +kernel
def rm_X10_digest : Room := { frames := 6, cells := 0, slots := 0, locals := 150 }
def M_X10_digest : zk_M := (zk_lkc cl_X10_digest, zk_in [], tb_X10, (some (.long), 0, 0), (zk_lka [], fun _ _ => none, zk_in [], zk_in [], zk_lka []))
theorem MO_X10_digest : zk_MO RX10 cX10_digest (yX10_digest.name = "<init>") M_X10_digest := zk_MO_of clo_X10_digest rfl tbo_X10
theorem TO_X10_digest : zk_TO RX10 cX10_digest rm_X10_digest M_X10_digest := ⟨fun pc h => absurd (zk_in_mem h) List.not_mem_nil, fun pc h => absurd (zk_in_mem h) List.not_mem_nil, fun pc tag h => absurd (zk_lka_mem h) List.not_mem_nil⟩
theorem THo_X10_digest : ∀ pc X, M_X10_digest.2.2.2.2.1 pc = some X → zk_TH RX10 cX10_digest rm_X10_digest pc X := fun pc X h => absurd (zk_lka_mem h) List.not_mem_nil
def cl_X10_mixRooms : List (Nat × List (Nat × Instr)) := [(20, [(0, .lload_n 1), (1, .lstore_n 3), (2, .aload_n 0), (3, .getfield 26), (6, .aload_n 0), (7, .getfield 12), (10, .aload_n 0), (11, .getfield 19), (14, .iconst 2), (15, .invokevirtual 235), (18, .iconst 0), (19, .istore 5)]),
  (45, [(21, .iload 5), (23, .bipush 20), (25, .if_icmp .ge 150), (28, .aload_n 0), (29, .getfield 12), (32, .getfield 72), (35, .iload 5), (37, .aaload), (38, .ifnull 131), (41, .lload_n 3), (42, .iload 5), (44, .i2l)]),
  (66, [(45, .invokestatic 284), (48, .lstore_n 3), (49, .lload_n 3), (50, .aload_n 0), (51, .getfield 19), (54, .getfield 200), (57, .iload 5), (59, .iaload), (60, .iconst (-1)), (61, .if_icmp .ne 7), (64, .lconst 1), (65, .goto 4)]),
  (89, [(68, .lconst 0), (69, .invokestatic 284), (72, .lstore_n 3), (73, .lload_n 3), (74, .aload_n 0), (75, .getfield 19), (78, .getfield 203), (81, .iload 5), (83, .iaload), (84, .i2l), (85, .invokestatic 284), (88, .lstore_n 3)]),
  (110, [(89, .lload_n 3), (90, .aload_n 0), (91, .iload 5), (93, .invokevirtual 206), (96, .i2l), (97, .invokestatic 284), (100, .lstore_n 3), (101, .lload_n 3), (102, .aload_n 0), (103, .getfield 19), (106, .getfield 210), (109, .iload 5)]),
  (130, [(111, .iaload), (112, .i2l), (113, .invokestatic 284), (116, .lstore_n 3), (117, .lload_n 3), (118, .aload_n 0), (119, .getfield 19), (122, .getfield 213), (125, .iload 5), (127, .iaload), (128, .i2l), (129, .invokestatic 284)]),
  (151, [(132, .lstore_n 3), (133, .lload_n 3), (134, .aload_n 0), (135, .getfield 26), (138, .getfield 243), (141, .iload 5), (143, .iaload), (144, .i2l), (145, .invokestatic 284), (148, .lstore_n 3), (149, .lload_n 3), (150, .aload_n 0)]),
  (176, [(151, .aload_n 0), (152, .getfield 12), (155, .getfield 72), (158, .iload 5), (160, .aaload), (161, .invokevirtual 277), (164, .i2l), (165, .invokestatic 284), (168, .lstore_n 3), (169, .iinc 5 1), (172, .goto (-151)), (175, .lload_n 3)]),
  (177, [(176, .lreturn)])]
theorem clo_X10_mixRooms : zk_okc cX10_mixRooms cl_X10_mixRooms = true := by decide +kernel
def rm_X10_mixRooms : Room := { frames := 4, cells := 0, slots := 0, locals := 92 }
def M_X10_mixRooms : zk_M := (zk_lkc cl_X10_mixRooms, zk_in [21], tb_X10, (some (.long), 0, 0), (zk_lka [], fun _ _ => none, zk_in [], zk_in [], zk_lka []))
theorem MO_X10_mixRooms : zk_MO RX10 cX10_mixRooms (yX10_mixRooms.name = "<init>") M_X10_mixRooms := zk_MO_of clo_X10_mixRooms rfl tbo_X10
theorem TO_X10_mixRooms : zk_TO RX10 cX10_mixRooms rm_X10_mixRooms M_X10_mixRooms := ⟨fun pc h => absurd (zk_in_mem h) List.not_mem_nil, fun pc h => absurd (zk_in_mem h) List.not_mem_nil, fun pc tag h => absurd (zk_lka_mem h) List.not_mem_nil⟩
theorem THo_X10_mixRooms : ∀ pc X, M_X10_mixRooms.2.2.2.2.1 pc = some X → zk_TH RX10 cX10_mixRooms rm_X10_mixRooms pc X := fun pc X h => absurd (zk_lka_mem h) List.not_mem_nil
def cl_X10_mixExits : List (Nat × List (Nat × Instr)) := [(22, [(0, .lload_n 1), (1, .lstore_n 3), (2, .iconst 0), (3, .istore 5), (5, .iload 5), (7, .bipush 40), (9, .if_icmp .ge 78), (12, .aload_n 0), (13, .getfield 12), (16, .getfield 117), (19, .iload 5), (21, .aaload)]),
  (44, [(22, .ifnull 59), (25, .lload_n 3), (26, .iload 5), (28, .i2l), (29, .invokestatic 284), (32, .lstore_n 3), (33, .lload_n 3), (34, .aload_n 0), (35, .getfield 19), (38, .getfield 219), (41, .iload 5), (43, .iaload)]),
  (65, [(44, .i2l), (45, .invokestatic 284), (48, .lstore_n 3), (49, .lload_n 3), (50, .aload_n 0), (51, .getfield 19), (54, .getfield 216), (57, .iload 5), (59, .iaload), (60, .i2l), (61, .invokestatic 284), (64, .lstore_n 3)]),
  (88, [(65, .lload_n 3), (66, .aload_n 0), (67, .getfield 19), (70, .getfield 222), (73, .iload 5), (75, .iaload), (76, .i2l), (77, .invokestatic 284), (80, .lstore_n 3), (81, .iinc 5 1), (84, .goto (-79)), (87, .iconst 0)]),
  (112, [(88, .istore 5), (90, .iload 5), (92, .bipush 10), (94, .if_icmp .ge 49), (97, .aload_n 0), (98, .getfield 12), (101, .getfield 158), (104, .iload 5), (106, .aaload), (107, .ifnull 30), (110, .lload_n 3), (111, .iload 5)]),
  (133, [(113, .i2l), (114, .invokestatic 284), (117, .lstore_n 3), (118, .lload_n 3), (119, .aload_n 0), (120, .getfield 19), (123, .getfield 222), (126, .bipush 40), (128, .iload 5), (130, .iadd), (131, .iaload), (132, .i2l)]),
  (145, [(133, .invokestatic 284), (136, .lstore_n 3), (137, .iinc 5 1), (140, .goto (-50)), (143, .lload_n 3), (144, .lreturn)])]
theorem clo_X10_mixExits : zk_okc cX10_mixExits cl_X10_mixExits = true := by decide +kernel
def rm_X10_mixExits : Room := { frames := 1, cells := 0, slots := 0, locals := 23 }
def M_X10_mixExits : zk_M := (zk_lkc cl_X10_mixExits, zk_in [5, 90], tb_X10, (some (.long), 0, 0), (zk_lka [], fun _ _ => none, zk_in [], zk_in [], zk_lka []))
theorem MO_X10_mixExits : zk_MO RX10 cX10_mixExits (yX10_mixExits.name = "<init>") M_X10_mixExits := zk_MO_of clo_X10_mixExits rfl tbo_X10
theorem TO_X10_mixExits : zk_TO RX10 cX10_mixExits rm_X10_mixExits M_X10_mixExits := ⟨fun pc h => absurd (zk_in_mem h) List.not_mem_nil, fun pc h => absurd (zk_in_mem h) List.not_mem_nil, fun pc tag h => absurd (zk_lka_mem h) List.not_mem_nil⟩
theorem THo_X10_mixExits : ∀ pc X, M_X10_mixExits.2.2.2.2.1 pc = some X → zk_TH RX10 cX10_mixExits rm_X10_mixExits pc X := fun pc X h => absurd (zk_lka_mem h) List.not_mem_nil
def cl_X10_mixFaults : List (Nat × List (Nat × Instr)) := [(20, [(0, .lload_n 1), (1, .aload_n 0), (2, .getfield 33), (5, .getfield 246), (8, .i2l), (9, .invokestatic 284), (12, .lstore_n 3), (13, .iconst 0), (14, .istore 5), (16, .iload 5), (18, .aload_n 0), (19, .getfield 33)]),
  (45, [(22, .getfield 246), (25, .if_icmp .ge 57), (28, .lload_n 3), (29, .aload_n 0), (30, .getfield 33), (33, .getfield 252), (36, .iload 5), (38, .iaload), (39, .i2l), (40, .invokestatic 284), (43, .lstore_n 3), (44, .lload_n 3)]),
  (66, [(45, .aload_n 0), (46, .getfield 33), (49, .getfield 255), (52, .iload 5), (54, .iaload), (55, .i2l), (56, .invokestatic 284), (59, .lstore_n 3), (60, .lload_n 3), (61, .aload_n 0), (62, .getfield 33), (65, .getfield 258)]),
  (84, [(68, .iload 5), (70, .iaload), (71, .i2l), (72, .invokestatic 284), (75, .lstore_n 3), (76, .iinc 5 1), (79, .goto (-63)), (82, .lload_n 3), (83, .lreturn)])]
theorem clo_X10_mixFaults : zk_okc cX10_mixFaults cl_X10_mixFaults = true := by decide +kernel
def rm_X10_mixFaults : Room := { frames := 1, cells := 0, slots := 0, locals := 23 }
def M_X10_mixFaults : zk_M := (zk_lkc cl_X10_mixFaults, zk_in [16], tb_X10, (some (.long), 0, 0), (zk_lka [], fun _ _ => none, zk_in [], zk_in [], zk_lka []))
theorem MO_X10_mixFaults : zk_MO RX10 cX10_mixFaults (yX10_mixFaults.name = "<init>") M_X10_mixFaults := zk_MO_of clo_X10_mixFaults rfl tbo_X10
theorem TO_X10_mixFaults : zk_TO RX10 cX10_mixFaults rm_X10_mixFaults M_X10_mixFaults := ⟨fun pc h => absurd (zk_in_mem h) List.not_mem_nil, fun pc h => absurd (zk_in_mem h) List.not_mem_nil, fun pc tag h => absurd (zk_lka_mem h) List.not_mem_nil⟩
theorem THo_X10_mixFaults : ∀ pc X, M_X10_mixFaults.2.2.2.2.1 pc = some X → zk_TH RX10 cX10_mixFaults rm_X10_mixFaults pc X := fun pc X h => absurd (zk_lka_mem h) List.not_mem_nil
def cl_X10_mix : List (Nat × List (Nat × Instr)) := [(8, [(0, .lload_n 0), (1, .ldc2_w 302), (4, .lmul), (5, .lload_n 2), (6, .ladd), (7, .lreturn)])]
theorem clo_X10_mix : zk_okc cX10_mix cl_X10_mix = true := by decide +kernel
def rm_X10_mix : Room := { frames := 0, cells := 0, slots := 0, locals := 0 }
def M_X10_mix : zk_M := (zk_lkc cl_X10_mix, zk_in [], tb_X10, (some (.long), 0, 0), (zk_lka [], fun _ _ => none, zk_in [], zk_in [], zk_lka []))
theorem MO_X10_mix : zk_MO RX10 cX10_mix (yX10_mix.name = "<init>") M_X10_mix := zk_MO_of clo_X10_mix rfl tbo_X10
theorem TO_X10_mix : zk_TO RX10 cX10_mix rm_X10_mix M_X10_mix := ⟨fun pc h => absurd (zk_in_mem h) List.not_mem_nil, fun pc h => absurd (zk_in_mem h) List.not_mem_nil, fun pc tag h => absurd (zk_lka_mem h) List.not_mem_nil⟩
theorem THo_X10_mix : ∀ pc X, M_X10_mix.2.2.2.2.1 pc = some X → zk_TH RX10 cX10_mix rm_X10_mix pc X := fun pc X h => absurd (zk_lka_mem h) List.not_mem_nil
def cl_X10_isWithin : List (Nat × List (Nat × Instr)) := [(16, [(0, .iload_n 0), (1, .iload_n 1), (2, .if_icmp .lt 12), (5, .iload_n 0), (6, .iload_n 2), (7, .if_icmp .gt 7), (10, .iconst 1), (11, .goto 4), (14, .iconst 0), (15, .ireturn)])]
theorem clo_X10_isWithin : zk_okc cX10_isWithin cl_X10_isWithin = true := by decide +kernel
def rm_X10_isWithin : Room := { frames := 0, cells := 0, slots := 0, locals := 0 }
def M_X10_isWithin : zk_M := (zk_lkc cl_X10_isWithin, zk_in [], tb_X10, (some (.boolean), 0, 0), (zk_lka [], fun _ _ => none, zk_in [], zk_in [], zk_lka []))
theorem MO_X10_isWithin : zk_MO RX10 cX10_isWithin (yX10_isWithin.name = "<init>") M_X10_isWithin := zk_MO_of clo_X10_isWithin rfl tbo_X10
theorem TO_X10_isWithin : zk_TO RX10 cX10_isWithin rm_X10_isWithin M_X10_isWithin := ⟨fun pc h => absurd (zk_in_mem h) List.not_mem_nil, fun pc h => absurd (zk_in_mem h) List.not_mem_nil, fun pc tag h => absurd (zk_lka_mem h) List.not_mem_nil⟩
theorem THo_X10_isWithin : ∀ pc X, M_X10_isWithin.2.2.2.2.1 pc = some X → zk_TH RX10 cX10_isWithin rm_X10_isWithin pc X := fun pc X h => absurd (zk_lka_mem h) List.not_mem_nil
def cl_X10_canBeJoined : List (Nat × List (Nat × Instr)) := [(20, [(0, .aload_n 1), (1, .ifnonnull 16), (4, .aload_n 0), (5, .getfield 105), (8, .ifCond .ne 7), (11, .iconst 1), (12, .goto 4), (15, .iconst 0), (16, .ireturn), (17, .aload_n 1), (18, .aload_n 0), (19, .if_acmp .eq 18)]),
  (39, [(22, .aload_n 1), (23, .getfield 105), (26, .aload_n 0), (27, .getfield 105), (30, .if_icmp .ne 7), (33, .iconst 1), (34, .goto 4), (37, .iconst 0), (38, .ireturn)])]
theorem clo_X10_canBeJoined : zk_okc cX10_canBeJoined cl_X10_canBeJoined = true := by decide +kernel
def rm_X10_canBeJoined : Room := { frames := 0, cells := 0, slots := 0, locals := 0 }
def M_X10_canBeJoined : zk_M := (zk_lkc cl_X10_canBeJoined, zk_in [], tb_X10, (some (.boolean), 0, 0), (zk_lka [], fun _ _ => none, zk_in [], zk_in [], zk_lka []))
theorem MO_X10_canBeJoined : zk_MO RX10 cX10_canBeJoined (yX10_canBeJoined.name = "<init>") M_X10_canBeJoined := zk_MO_of clo_X10_canBeJoined rfl tbo_X10
theorem TO_X10_canBeJoined : zk_TO RX10 cX10_canBeJoined rm_X10_canBeJoined M_X10_canBeJoined := ⟨fun pc h => absurd (zk_in_mem h) List.not_mem_nil, fun pc h => absurd (zk_in_mem h) List.not_mem_nil, fun pc tag h => absurd (zk_lka_mem h) List.not_mem_nil⟩
theorem THo_X10_canBeJoined : ∀ pc X, M_X10_canBeJoined.2.2.2.2.1 pc = some X → zk_TH RX10 cX10_canBeJoined rm_X10_canBeJoined pc X := fun pc X h => absurd (zk_lka_mem h) List.not_mem_nil
def cl_X10_leavingOf : List (Nat × List (Nat × Instr)) := [(21, [(0, .aload_n 0), (1, .getfield 19), (4, .getfield 200), (7, .iload_n 1), (8, .iaload), (9, .istore_n 2), (10, .iload_n 2), (11, .bipush 40), (13, .if_icmp .ge 7), (16, .iload_n 2), (17, .goto 10), (20, .iload_n 2)]),
  (28, [(21, .bipush 40), (23, .isub), (24, .bipush 100), (26, .iadd), (27, .ireturn)])]
theorem clo_X10_leavingOf : zk_okc cX10_leavingOf cl_X10_leavingOf = true := by decide +kernel
def rm_X10_leavingOf : Room := { frames := 0, cells := 0, slots := 0, locals := 0 }
def M_X10_leavingOf : zk_M := (zk_lkc cl_X10_leavingOf, zk_in [], tb_X10, (some (.int), 0, 0), (zk_lka [], fun _ _ => none, zk_in [], zk_in [], zk_lka []))
theorem MO_X10_leavingOf : zk_MO RX10 cX10_leavingOf (yX10_leavingOf.name = "<init>") M_X10_leavingOf := zk_MO_of clo_X10_leavingOf rfl tbo_X10
theorem TO_X10_leavingOf : zk_TO RX10 cX10_leavingOf rm_X10_leavingOf M_X10_leavingOf := ⟨fun pc h => absurd (zk_in_mem h) List.not_mem_nil, fun pc h => absurd (zk_in_mem h) List.not_mem_nil, fun pc tag h => absurd (zk_lka_mem h) List.not_mem_nil⟩
theorem THo_X10_leavingOf : ∀ pc X, M_X10_leavingOf.2.2.2.2.1 pc = some X → zk_TH RX10 cX10_leavingOf rm_X10_leavingOf pc X := fun pc X h => absurd (zk_lka_mem h) List.not_mem_nil
def cl_X10_mostIn : List (Nat × List (Nat × Instr)) := [(20, [(0, .sipush 200), (3, .istore_n 2), (4, .aload_n 0), (5, .getfield 12), (8, .getfield 178), (11, .iconst 3), (12, .iaload), (13, .istore_n 3), (14, .iload_n 3), (15, .ifCond .le 19), (18, .iload_n 2), (19, .aload_n 1)]),
  (40, [(20, .getfield 304), (23, .aload_n 1), (24, .getfield 307), (27, .imul), (28, .iload_n 3), (29, .idiv), (30, .invokestatic 310), (33, .istore_n 2), (34, .aload_n 0), (35, .getfield 12), (38, .aload_n 1), (39, .invokevirtual 315)]),
  (65, [(42, .iconst 1), (43, .if_icmp .gt 20), (46, .iload_n 2), (47, .aload_n 0), (48, .getfield 12), (51, .getfield 178), (54, .bipush 6), (56, .iaload), (57, .invokestatic 310), (60, .goto 4), (63, .iload_n 2), (64, .ireturn)])]
theorem clo_X10_mostIn : zk_okc cX10_mostIn cl_X10_mostIn = true := by decide +kernel
def rm_X10_mostIn : Room := { frames := 2, cells := 0, slots := 0, locals := 45 }
def M_X10_mostIn : zk_M := (zk_lkc cl_X10_mostIn, zk_in [], tb_X10, (some (.int), 0, 0), (zk_lka [], fun _ _ => none, zk_in [], zk_in [], zk_lka [(30, 0), (57, 0)]))
theorem MO_X10_mostIn : zk_MO RX10 cX10_mostIn (yX10_mostIn.name = "<init>") M_X10_mostIn := zk_MO_of clo_X10_mostIn rfl tbo_X10
theorem TO_X10_mostIn : zk_TO RX10 cX10_mostIn rm_X10_mostIn M_X10_mostIn := ⟨fun pc h => absurd (zk_in_mem h) List.not_mem_nil, fun pc h => absurd (zk_in_mem h) List.not_mem_nil, fun pc tag h => by
    have h2 := zk_lka_mem h
    simp only [List.mem_cons, List.not_mem_nil, or_false, Prod.mk.injEq] at h2
    rcases h2 with ⟨rfl, rfl⟩ | ⟨rfl, rfl⟩
    · exact ⟨310, by decide +kernel, zk_wi 381 (by decide +kernel) rfl, by decide, by decide⟩
    · exact ⟨310, by decide +kernel, zk_wi 381 (by decide +kernel) rfl, by decide, by decide⟩⟩
theorem THo_X10_mostIn : ∀ pc X, M_X10_mostIn.2.2.2.2.1 pc = some X → zk_TH RX10 cX10_mostIn rm_X10_mostIn pc X := fun pc X h => absurd (zk_lka_mem h) List.not_mem_nil
def cl_X10_roomThere : List (Nat × List (Nat × Instr)) := [(23, [(0, .iload_n 1), (1, .iconst 0), (2, .bipush 19), (4, .invokestatic 41), (7, .ifCond .eq 15), (10, .aload_n 0), (11, .getfield 12), (14, .getfield 72), (17, .iload_n 1), (18, .aaload), (19, .goto 4), (22, .aconst_null)]),
  (41, [(23, .astore_n 2), (24, .aload_n 2), (25, .ifnonnull 14), (28, .new 182), (31, .dup), (32, .ldc_w 318), (35, .invokespecial 186), (38, .athrow), (39, .aload_n 2), (40, .areturn)])]
theorem clo_X10_roomThere : zk_okc cX10_roomThere cl_X10_roomThere = true := by decide +kernel
def rm_X10_roomThere : Room := { frames := 6, cells := 1, slots := 6, locals := 82 }
def M_X10_roomThere : zk_M := (zk_lkc cl_X10_roomThere, zk_in [], tb_X10, (some ((.object "ClerestoryPlan$Room")), 1, 6), (zk_lka [(28, "java/lang/IndexOutOfBoundsException")], fun _ _ => none, zk_in [], zk_in [], zk_lka []))
theorem MO_X10_roomThere : zk_MO RX10 cX10_roomThere (yX10_roomThere.name = "<init>") M_X10_roomThere := zk_MO_of clo_X10_roomThere rfl tbo_X10
theorem TO_X10_roomThere : zk_TO RX10 cX10_roomThere rm_X10_roomThere M_X10_roomThere := ⟨fun pc h => absurd (zk_in_mem h) List.not_mem_nil, fun pc h => absurd (zk_in_mem h) List.not_mem_nil, fun pc tag h => absurd (zk_lka_mem h) List.not_mem_nil⟩
theorem TH_X10_roomThere_28 : zk_TH RX10 cX10_roomThere rm_X10_roomThere 28 "java/lang/IndexOutOfBoundsException" := ⟨182, 318, 186, "no such room", ["java/lang/RuntimeException", "java/lang/Exception"], zk_wi 554 (by decide +kernel) rfl, zk_wi 14 (by decide +kernel) rfl, by decide +kernel, ats_2, by decide +kernel, by decide +kernel, by decide, by decide, by decide +kernel, by decide +kernel, Or.inr ⟨by decide +kernel, by decide +kernel, by decide +kernel⟩⟩
theorem THo_X10_roomThere : ∀ pc X, M_X10_roomThere.2.2.2.2.1 pc = some X → zk_TH RX10 cX10_roomThere rm_X10_roomThere pc X := fun pc X h => by
    have h2 := zk_lka_mem h
    simp only [List.mem_cons, List.not_mem_nil, or_false, Prod.mk.injEq] at h2
    rcases h2 with ⟨rfl, rfl⟩
    exact TH_X10_roomThere_28
def cl_X10_doorThere : List (Nat × List (Nat × Instr)) := [(23, [(0, .iload_n 1), (1, .iconst 0), (2, .bipush 39), (4, .invokestatic 41), (7, .ifCond .eq 15), (10, .aload_n 0), (11, .getfield 12), (14, .getfield 117), (17, .iload_n 1), (18, .aaload), (19, .goto 4), (22, .aconst_null)]),
  (41, [(23, .astore_n 2), (24, .aload_n 2), (25, .ifnonnull 14), (28, .new 182), (31, .dup), (32, .ldc_w 320), (35, .invokespecial 186), (38, .athrow), (39, .aload_n 2), (40, .areturn)])]
theorem clo_X10_doorThere : zk_okc cX10_doorThere cl_X10_doorThere = true := by decide +kernel
def rm_X10_doorThere : Room := { frames := 6, cells := 1, slots := 6, locals := 82 }
def M_X10_doorThere : zk_M := (zk_lkc cl_X10_doorThere, zk_in [], tb_X10, (some ((.object "ClerestoryPlan$Door")), 1, 6), (zk_lka [(28, "java/lang/IndexOutOfBoundsException")], fun _ _ => none, zk_in [], zk_in [], zk_lka []))
theorem MO_X10_doorThere : zk_MO RX10 cX10_doorThere (yX10_doorThere.name = "<init>") M_X10_doorThere := zk_MO_of clo_X10_doorThere rfl tbo_X10
theorem TO_X10_doorThere : zk_TO RX10 cX10_doorThere rm_X10_doorThere M_X10_doorThere := ⟨fun pc h => absurd (zk_in_mem h) List.not_mem_nil, fun pc h => absurd (zk_in_mem h) List.not_mem_nil, fun pc tag h => absurd (zk_lka_mem h) List.not_mem_nil⟩
theorem TH_X10_doorThere_28 : zk_TH RX10 cX10_doorThere rm_X10_doorThere 28 "java/lang/IndexOutOfBoundsException" := ⟨182, 320, 186, "no such door", ["java/lang/RuntimeException", "java/lang/Exception"], zk_wi 554 (by decide +kernel) rfl, zk_wi 14 (by decide +kernel) rfl, by decide +kernel, ats_2, by decide +kernel, by decide +kernel, by decide, by decide, by decide +kernel, by decide +kernel, Or.inr ⟨by decide +kernel, by decide +kernel, by decide +kernel⟩⟩
theorem THo_X10_doorThere : ∀ pc X, M_X10_doorThere.2.2.2.2.1 pc = some X → zk_TH RX10 cX10_doorThere rm_X10_doorThere pc X := fun pc X h => by
    have h2 := zk_lka_mem h
    simp only [List.mem_cons, List.not_mem_nil, or_false, Prod.mk.injEq] at h2
    rcases h2 with ⟨rfl, rfl⟩
    exact TH_X10_doorThere_28
def cl_X10_checkTick : List (Nat × List (Nat × Instr)) := [(23, [(0, .iload_n 0), (1, .iconst 0), (2, .sipush 999), (5, .invokestatic 41), (8, .ifCond .ne 14), (11, .new 45), (14, .dup), (15, .ldc_w 322), (18, .invokespecial 49), (21, .athrow), (22, .return_)])]
theorem clo_X10_checkTick : zk_okc cX10_checkTick cl_X10_checkTick = true := by decide +kernel
def rm_X10_checkTick : Room := { frames := 6, cells := 1, slots := 6, locals := 82 }
def M_X10_checkTick : zk_M := (zk_lkc cl_X10_checkTick, zk_in [], tb_X10, (none, 1, 6), (zk_lka [(11, "java/lang/IllegalArgumentException")], fun _ _ => none, zk_in [], zk_in [], zk_lka []))
theorem MO_X10_checkTick : zk_MO RX10 cX10_checkTick (yX10_checkTick.name = "<init>") M_X10_checkTick := zk_MO_of clo_X10_checkTick rfl tbo_X10
theorem TO_X10_checkTick : zk_TO RX10 cX10_checkTick rm_X10_checkTick M_X10_checkTick := ⟨fun pc h => absurd (zk_in_mem h) List.not_mem_nil, fun pc h => absurd (zk_in_mem h) List.not_mem_nil, fun pc tag h => absurd (zk_lka_mem h) List.not_mem_nil⟩
theorem TH_X10_checkTick_11 : zk_TH RX10 cX10_checkTick rm_X10_checkTick 11 "java/lang/IllegalArgumentException" := ⟨45, 322, 49, "a tick is 0 to 999", ["java/lang/RuntimeException", "java/lang/Exception"], zk_wi 403 (by decide +kernel) rfl, zk_wi 10 (by decide +kernel) rfl, by decide +kernel, ats_0, by decide +kernel, by decide +kernel, by decide, by decide, by decide +kernel, by decide +kernel, Or.inr ⟨by decide +kernel, by decide +kernel, by decide +kernel⟩⟩
theorem THo_X10_checkTick : ∀ pc X, M_X10_checkTick.2.2.2.2.1 pc = some X → zk_TH RX10 cX10_checkTick rm_X10_checkTick pc X := fun pc X h => by
    have h2 := zk_lka_mem h
    simp only [List.mem_cons, List.not_mem_nil, or_false, Prod.mk.injEq] at h2
    rcases h2 with ⟨rfl, rfl⟩
    exact TH_X10_checkTick_11
def cl_X10_checkFault : List (Nat × List (Nat × Instr)) := [(22, [(0, .iload_n 1), (1, .iconst 0), (2, .aload_n 0), (3, .getfield 33), (6, .getfield 246), (9, .iconst 1), (10, .isub), (11, .invokestatic 41), (14, .ifCond .ne 14), (17, .new 182), (20, .dup), (21, .ldc_w 324)]),
  (29, [(24, .invokespecial 186), (27, .athrow), (28, .return_)])]
theorem clo_X10_checkFault : zk_okc cX10_checkFault cl_X10_checkFault = true := by decide +kernel
def rm_X10_checkFault : Room := { frames := 6, cells := 1, slots := 6, locals := 82 }
def M_X10_checkFault : zk_M := (zk_lkc cl_X10_checkFault, zk_in [], tb_X10, (none, 1, 6), (zk_lka [(17, "java/lang/IndexOutOfBoundsException")], fun _ _ => none, zk_in [], zk_in [], zk_lka []))
theorem MO_X10_checkFault : zk_MO RX10 cX10_checkFault (yX10_checkFault.name = "<init>") M_X10_checkFault := zk_MO_of clo_X10_checkFault rfl tbo_X10
theorem TO_X10_checkFault : zk_TO RX10 cX10_checkFault rm_X10_checkFault M_X10_checkFault := ⟨fun pc h => absurd (zk_in_mem h) List.not_mem_nil, fun pc h => absurd (zk_in_mem h) List.not_mem_nil, fun pc tag h => absurd (zk_lka_mem h) List.not_mem_nil⟩
theorem TH_X10_checkFault_17 : zk_TH RX10 cX10_checkFault rm_X10_checkFault 17 "java/lang/IndexOutOfBoundsException" := ⟨182, 324, 186, "no such fault", ["java/lang/RuntimeException", "java/lang/Exception"], zk_wi 554 (by decide +kernel) rfl, zk_wi 14 (by decide +kernel) rfl, by decide +kernel, ats_2, by decide +kernel, by decide +kernel, by decide, by decide, by decide +kernel, by decide +kernel, Or.inr ⟨by decide +kernel, by decide +kernel, by decide +kernel⟩⟩
theorem THo_X10_checkFault : ∀ pc X, M_X10_checkFault.2.2.2.2.1 pc = some X → zk_TH RX10 cX10_checkFault rm_X10_checkFault pc X := fun pc X h => by
    have h2 := zk_lka_mem h
    simp only [List.mem_cons, List.not_mem_nil, or_false, Prod.mk.injEq] at h2
    rcases h2 with ⟨rfl, rfl⟩
    exact TH_X10_checkFault_17
def cl_X10_turn : List (Nat × List (Nat × Instr)) := [(22, [(0, .aload_n 1), (1, .aload_n 1), (2, .getfield 171), (5, .ifCond .ne 7), (8, .iconst 1), (9, .goto 4), (12, .iconst 0), (13, .putfield 171), (16, .aload_n 0), (17, .iconst 0), (18, .putfield 37), (21, .return_)])]
theorem clo_X10_turn : zk_okc cX10_turn cl_X10_turn = true := by decide +kernel
def rm_X10_turn : Room := { frames := 0, cells := 0, slots := 0, locals := 0 }
def M_X10_turn : zk_M := (zk_lkc cl_X10_turn, zk_in [], tb_X10, (none, 0, 0), (zk_lka [], fun _ _ => none, zk_in [], zk_in [], zk_lka []))
theorem MO_X10_turn : zk_MO RX10 cX10_turn (yX10_turn.name = "<init>") M_X10_turn := zk_MO_of clo_X10_turn rfl tbo_X10
theorem TO_X10_turn : zk_TO RX10 cX10_turn rm_X10_turn M_X10_turn := ⟨fun pc h => absurd (zk_in_mem h) List.not_mem_nil, fun pc h => absurd (zk_in_mem h) List.not_mem_nil, fun pc tag h => absurd (zk_lka_mem h) List.not_mem_nil⟩
theorem THo_X10_turn : ∀ pc X, M_X10_turn.2.2.2.2.1 pc = some X → zk_TH RX10 cX10_turn rm_X10_turn pc X := fun pc X h => absurd (zk_lka_mem h) List.not_mem_nil
def cl_X10_reckon : List (Nat × List (Nat × Instr)) := [(22, [(0, .aload_n 0), (1, .getfield 37), (4, .ifCond .eq 4), (7, .return_), (8, .aload_n 0), (9, .getfield 19), (12, .aload_n 0), (13, .getfield 12), (16, .invokevirtual 326), (19, .iconst 0), (20, .istore_n 1), (21, .iload_n 1)]),
  (47, [(22, .bipush 20), (24, .if_icmp .ge 21), (27, .aload_n 0), (28, .getfield 19), (31, .aload_n 0), (32, .getfield 12), (35, .iload_n 1), (36, .invokevirtual 330), (39, .iinc 1 1), (42, .goto (-21)), (45, .aload_n 0), (46, .getfield 19)]),
  (73, [(49, .aload_n 0), (50, .getfield 12), (53, .invokevirtual 334), (56, .aload_n 0), (57, .getfield 19), (60, .aload_n 0), (61, .getfield 12), (64, .invokevirtual 337), (67, .aload_n 0), (68, .getfield 33), (71, .iconst 0), (72, .putfield 246)]),
  (95, [(75, .iconst 0), (76, .istore_n 1), (77, .iload_n 1), (78, .aload_n 0), (79, .getfield 12), (82, .getfield 178), (85, .arraylength), (86, .if_icmp .ge 25), (89, .aload_n 0), (90, .getfield 33), (93, .aload_n 0), (94, .getfield 12)]),
  (117, [(97, .aload_n 0), (98, .getfield 19), (101, .iload_n 1), (102, .invokevirtual 340), (105, .iinc 1 1), (108, .goto (-31)), (111, .aload_n 0), (112, .iconst 1), (113, .putfield 37), (116, .return_)])]
theorem clo_X10_reckon : zk_okc cX10_reckon cl_X10_reckon = true := by decide +kernel
def rm_X10_reckon : Room := { frames := 5, cells := 0, slots := 0, locals := 129 }
def M_X10_reckon : zk_M := (zk_lkc cl_X10_reckon, zk_in [21, 77], tb_X10, (none, 0, 0), (zk_lka [], fun _ _ => none, zk_in [], zk_in [], zk_lka []))
theorem MO_X10_reckon : zk_MO RX10 cX10_reckon (yX10_reckon.name = "<init>") M_X10_reckon := zk_MO_of clo_X10_reckon rfl tbo_X10
theorem TO_X10_reckon : zk_TO RX10 cX10_reckon rm_X10_reckon M_X10_reckon := ⟨fun pc h => absurd (zk_in_mem h) List.not_mem_nil, fun pc h => absurd (zk_in_mem h) List.not_mem_nil, fun pc tag h => absurd (zk_lka_mem h) List.not_mem_nil⟩
theorem THo_X10_reckon : ∀ pc X, M_X10_reckon.2.2.2.2.1 pc = some X → zk_TH RX10 cX10_reckon rm_X10_reckon pc X := fun pc X h => absurd (zk_lka_mem h) List.not_mem_nil
def cl_X11_init : List (Nat × List (Nat × Instr)) := [(22, [(0, .aload_n 0), (1, .invokespecial 3), (4, .aload_n 0), (5, .bipush 20), (7, .newarray .int), (9, .putfield 9), (12, .aload_n 0), (13, .bipush 20), (15, .newarray .int), (17, .putfield 13), (20, .aload_n 0), (21, .bipush 20)]),
  (46, [(23, .newarray .int), (25, .putfield 16), (28, .aload_n 0), (29, .bipush 20), (31, .newarray .int), (33, .putfield 19), (36, .aload_n 0), (37, .bipush 20), (39, .newarray .int), (41, .putfield 22), (44, .aload_n 0), (45, .bipush 20)]),
  (70, [(47, .newarray .int), (49, .putfield 25), (52, .aload_n 0), (53, .bipush 20), (55, .newarray .int), (57, .putfield 28), (60, .aload_n 0), (61, .bipush 40), (63, .newarray .int), (65, .putfield 31), (68, .aload_n 0), (69, .bipush 40)]),
  (94, [(71, .newarray .int), (73, .putfield 34), (76, .aload_n 0), (77, .bipush 40), (79, .newarray .int), (81, .putfield 37), (84, .aload_n 0), (85, .bipush 40), (87, .newarray .int), (89, .putfield 40), (92, .aload_n 0), (93, .bipush 40)]),
  (118, [(95, .newarray .int), (97, .putfield 43), (100, .aload_n 0), (101, .bipush 40), (103, .newarray .boolean), (105, .putfield 46), (108, .aload_n 0), (109, .bipush 40), (111, .newarray .boolean), (113, .putfield 50), (116, .aload_n 0), (117, .bipush 40)]),
  (142, [(119, .newarray .int), (121, .putfield 53), (124, .aload_n 0), (125, .bipush 40), (127, .newarray .int), (129, .putfield 56), (132, .aload_n 0), (133, .bipush 40), (135, .newarray .int), (137, .putfield 59), (140, .aload_n 0), (141, .bipush 40)]),
  (166, [(143, .newarray .int), (145, .putfield 62), (148, .aload_n 0), (149, .bipush 40), (151, .newarray .boolean), (153, .putfield 65), (156, .aload_n 0), (157, .bipush 10), (159, .newarray .int), (161, .putfield 68), (164, .aload_n 0), (165, .bipush 10)]),
  (190, [(167, .newarray .int), (169, .putfield 71), (172, .aload_n 0), (173, .bipush 10), (175, .newarray .int), (177, .putfield 74), (180, .aload_n 0), (181, .bipush 10), (183, .newarray .int), (185, .putfield 77), (188, .aload_n 0), (189, .bipush 10)]),
  (205, [(191, .newarray .int), (193, .dup), (194, .iconst 0), (195, .iconst 0), (196, .iastore), (197, .dup), (198, .iconst 1), (199, .bipush 120), (201, .iastore), (202, .dup), (203, .iconst 2), (204, .bipush 8)]),
  (219, [(206, .iastore), (207, .dup), (208, .iconst 3), (209, .iconst 4), (210, .iastore), (211, .dup), (212, .iconst 4), (213, .bipush 10), (215, .iastore), (216, .dup), (217, .iconst 5), (218, .bipush 12)]),
  (236, [(220, .iastore), (221, .dup), (222, .bipush 6), (224, .bipush 50), (226, .iastore), (227, .dup), (228, .bipush 7), (230, .iconst 3), (231, .iastore), (232, .dup), (233, .bipush 8), (235, .bipush 60)]),
  (256, [(237, .iastore), (238, .dup), (239, .bipush 9), (241, .iconst 0), (242, .iastore), (243, .putfield 80), (246, .aload_n 0), (247, .bipush 100), (249, .newarray .int), (251, .putfield 83), (254, .aload_n 0), (255, .bipush 20)]),
  (280, [(257, .newarray .int), (259, .putfield 86), (262, .aload_n 0), (263, .bipush 20), (265, .newarray .int), (267, .putfield 89), (270, .aload_n 0), (271, .bipush 20), (273, .newarray .int), (275, .putfield 92), (278, .aload_n 0), (279, .sipush 1200)]),
  (304, [(282, .newarray .int), (284, .putfield 95), (287, .aload_n 0), (288, .bipush 100), (290, .newarray .int), (292, .putfield 98), (295, .aload_n 0), (296, .bipush 20), (298, .newarray .int), (300, .putfield 101), (303, .return_)])]
theorem clo_X11_init : zk_okc cX11_init cl_X11_init = true := by decide +kernel
def rm_X11_init : Room := { frames := 1, cells := 31, slots := 2150, locals := 20 }
def M_X11_init : zk_M := (zk_lkc cl_X11_init, zk_in [], tbi_X11, (none, 31, 2150), (zk_lka [], fun _ _ => none, zk_in [1], zk_in [], zk_lka []))
theorem MO_X11_init : zk_MO RX11 cX11_init (yX11_init.name = "<init>") M_X11_init := zk_MO_of clo_X11_init rfl (tbio_X11 rfl)
theorem TO_X11_init : zk_TO RX11 cX11_init rm_X11_init M_X11_init := ⟨fun pc h => by
    have h2 := zk_in_mem h
    simp only [List.mem_cons, List.not_mem_nil, or_false] at h2
    subst h2
    exact ⟨3, by decide +kernel, zk_wi 980 (by decide +kernel) rfl, by decide, by decide⟩, fun pc h => absurd (zk_in_mem h) List.not_mem_nil, fun pc tag h => absurd (zk_lka_mem h) List.not_mem_nil⟩
theorem THo_X11_init : ∀ pc X, M_X11_init.2.2.2.2.1 pc = some X → zk_TH RX11 cX11_init rm_X11_init pc X := fun pc X h => absurd (zk_lka_mem h) List.not_mem_nil
def cl_X11_thrown : List (Nat × List (Nat × Instr)) := [(5, [(0, .aload_n 0), (1, .getfield 104), (4, .ireturn)])]
theorem clo_X11_thrown : zk_okc cX11_thrown cl_X11_thrown = true := by decide +kernel
def rm_X11_thrown : Room := { frames := 0, cells := 0, slots := 0, locals := 0 }
def M_X11_thrown : zk_M := (zk_lkc cl_X11_thrown, zk_in [], tb_X11, (some (.int), 0, 0), (zk_lka [], fun _ _ => none, zk_in [], zk_in [], zk_lka []))
theorem MO_X11_thrown : zk_MO RX11 cX11_thrown (yX11_thrown.name = "<init>") M_X11_thrown := zk_MO_of clo_X11_thrown rfl tbo_X11
theorem TO_X11_thrown : zk_TO RX11 cX11_thrown rm_X11_thrown M_X11_thrown := ⟨fun pc h => absurd (zk_in_mem h) List.not_mem_nil, fun pc h => absurd (zk_in_mem h) List.not_mem_nil, fun pc tag h => absurd (zk_lka_mem h) List.not_mem_nil⟩
theorem THo_X11_thrown : ∀ pc X, M_X11_thrown.2.2.2.2.1 pc = some X → zk_TH RX11 cX11_thrown rm_X11_thrown pc X := fun pc X h => absurd (zk_lka_mem h) List.not_mem_nil
def cl_X11_no : List (Nat × List (Nat × Instr)) := [(7, [(0, .aload_n 0), (1, .iload_n 1), (2, .putfield 104), (5, .iconst 0), (6, .ireturn)])]
theorem clo_X11_no : zk_okc cX11_no cl_X11_no = true := by decide +kernel
def rm_X11_no : Room := { frames := 0, cells := 0, slots := 0, locals := 0 }
def M_X11_no : zk_M := (zk_lkc cl_X11_no, zk_in [], tb_X11, (some (.int), 0, 0), (zk_lka [], fun _ _ => none, zk_in [], zk_in [], zk_lka []))
theorem MO_X11_no : zk_MO RX11 cX11_no (yX11_no.name = "<init>") M_X11_no := zk_MO_of clo_X11_no rfl tbo_X11
theorem TO_X11_no : zk_TO RX11 cX11_no rm_X11_no M_X11_no := ⟨fun pc h => absurd (zk_in_mem h) List.not_mem_nil, fun pc h => absurd (zk_in_mem h) List.not_mem_nil, fun pc tag h => absurd (zk_lka_mem h) List.not_mem_nil⟩
theorem THo_X11_no : ∀ pc X, M_X11_no.2.2.2.2.1 pc = some X → zk_TH RX11 cX11_no rm_X11_no pc X := fun pc X h => absurd (zk_lka_mem h) List.not_mem_nil
def cl_X11_isNot : List (Nat × List (Nat × Instr)) := [(7, [(0, .aload_n 0), (1, .iload_n 1), (2, .putfield 104), (5, .iconst 0), (6, .ireturn)])]
theorem clo_X11_isNot : zk_okc cX11_isNot cl_X11_isNot = true := by decide +kernel
def rm_X11_isNot : Room := { frames := 0, cells := 0, slots := 0, locals := 0 }
def M_X11_isNot : zk_M := (zk_lkc cl_X11_isNot, zk_in [], tb_X11, (some (.boolean), 0, 0), (zk_lka [], fun _ _ => none, zk_in [], zk_in [], zk_lka []))
theorem MO_X11_isNot : zk_MO RX11 cX11_isNot (yX11_isNot.name = "<init>") M_X11_isNot := zk_MO_of clo_X11_isNot rfl tbo_X11
theorem TO_X11_isNot : zk_TO RX11 cX11_isNot rm_X11_isNot M_X11_isNot := ⟨fun pc h => absurd (zk_in_mem h) List.not_mem_nil, fun pc h => absurd (zk_in_mem h) List.not_mem_nil, fun pc tag h => absurd (zk_lka_mem h) List.not_mem_nil⟩
theorem THo_X11_isNot : ∀ pc X, M_X11_isNot.2.2.2.2.1 pc = some X → zk_TH RX11 cX11_isNot rm_X11_isNot pc X := fun pc X h => absurd (zk_lka_mem h) List.not_mem_nil
def cl_X11_ok : List (Nat × List (Nat × Instr)) := [(7, [(0, .aload_n 0), (1, .iconst 0), (2, .putfield 104), (5, .iload_n 1), (6, .ireturn)])]
theorem clo_X11_ok : zk_okc cX11_ok cl_X11_ok = true := by decide +kernel
def rm_X11_ok : Room := { frames := 0, cells := 0, slots := 0, locals := 0 }
def M_X11_ok : zk_M := (zk_lkc cl_X11_ok, zk_in [], tb_X11, (some (.int), 0, 0), (zk_lka [], fun _ _ => none, zk_in [], zk_in [], zk_lka []))
theorem MO_X11_ok : zk_MO RX11 cX11_ok (yX11_ok.name = "<init>") M_X11_ok := zk_MO_of clo_X11_ok rfl tbo_X11
theorem TO_X11_ok : zk_TO RX11 cX11_ok rm_X11_ok M_X11_ok := ⟨fun pc h => absurd (zk_in_mem h) List.not_mem_nil, fun pc h => absurd (zk_in_mem h) List.not_mem_nil, fun pc tag h => absurd (zk_lka_mem h) List.not_mem_nil⟩
theorem THo_X11_ok : ∀ pc X, M_X11_ok.2.2.2.2.1 pc = some X → zk_TH RX11 cX11_ok rm_X11_ok pc X := fun pc X h => absurd (zk_lka_mem h) List.not_mem_nil
def cl_X11_isIn : List (Nat × List (Nat × Instr)) := [(16, [(0, .iload_n 0), (1, .iload_n 1), (2, .if_icmp .lt 12), (5, .iload_n 0), (6, .iload_n 2), (7, .if_icmp .gt 7), (10, .iconst 1), (11, .goto 4), (14, .iconst 0), (15, .ireturn)])]
theorem clo_X11_isIn : zk_okc cX11_isIn cl_X11_isIn = true := by decide +kernel
def rm_X11_isIn : Room := { frames := 0, cells := 0, slots := 0, locals := 0 }
def M_X11_isIn : zk_M := (zk_lkc cl_X11_isIn, zk_in [], tb_X11, (some (.boolean), 0, 0), (zk_lka [], fun _ _ => none, zk_in [], zk_in [], zk_lka []))
theorem MO_X11_isIn : zk_MO RX11 cX11_isIn (yX11_isIn.name = "<init>") M_X11_isIn := zk_MO_of clo_X11_isIn rfl tbo_X11
theorem TO_X11_isIn : zk_TO RX11 cX11_isIn rm_X11_isIn M_X11_isIn := ⟨fun pc h => absurd (zk_in_mem h) List.not_mem_nil, fun pc h => absurd (zk_in_mem h) List.not_mem_nil, fun pc tag h => absurd (zk_lka_mem h) List.not_mem_nil⟩
theorem THo_X11_isIn : ∀ pc X, M_X11_isIn.2.2.2.2.1 pc = some X → zk_TH RX11 cX11_isIn rm_X11_isIn pc X := fun pc X h => absurd (zk_lka_mem h) List.not_mem_nil
def cl_X11_isRoom : List (Nat × List (Nat × Instr)) := [(20, [(0, .iload_n 1), (1, .iconst 0), (2, .aload_n 0), (3, .getfield 108), (6, .iconst 1), (7, .isub), (8, .invokestatic 111), (11, .ifCond .eq 18), (14, .aload_n 0), (15, .getfield 9), (18, .iload_n 1), (19, .iaload)]),
  (31, [(20, .bipush (-2)), (22, .if_icmp .eq 7), (25, .iconst 1), (26, .goto 4), (29, .iconst 0), (30, .ireturn)])]
theorem clo_X11_isRoom : zk_okc cX11_isRoom cl_X11_isRoom = true := by decide +kernel
def rm_X11_isRoom : Room := { frames := 1, cells := 0, slots := 0, locals := 22 }
def M_X11_isRoom : zk_M := (zk_lkc cl_X11_isRoom, zk_in [], tb_X11, (some (.boolean), 0, 0), (zk_lka [], fun _ _ => none, zk_in [], zk_in [], zk_lka []))
theorem MO_X11_isRoom : zk_MO RX11 cX11_isRoom (yX11_isRoom.name = "<init>") M_X11_isRoom := zk_MO_of clo_X11_isRoom rfl tbo_X11
theorem TO_X11_isRoom : zk_TO RX11 cX11_isRoom rm_X11_isRoom M_X11_isRoom := ⟨fun pc h => absurd (zk_in_mem h) List.not_mem_nil, fun pc h => absurd (zk_in_mem h) List.not_mem_nil, fun pc tag h => absurd (zk_lka_mem h) List.not_mem_nil⟩
theorem THo_X11_isRoom : ∀ pc X, M_X11_isRoom.2.2.2.2.1 pc = some X → zk_TH RX11 cX11_isRoom rm_X11_isRoom pc X := fun pc X h => absurd (zk_lka_mem h) List.not_mem_nil
def cl_X11_isDoor : List (Nat × List (Nat × Instr)) := [(20, [(0, .iload_n 1), (1, .iconst 0), (2, .aload_n 0), (3, .getfield 115), (6, .iconst 1), (7, .isub), (8, .invokestatic 111), (11, .ifCond .eq 18), (14, .aload_n 0), (15, .getfield 31), (18, .iload_n 1), (19, .iaload)]),
  (31, [(20, .bipush (-2)), (22, .if_icmp .eq 7), (25, .iconst 1), (26, .goto 4), (29, .iconst 0), (30, .ireturn)])]
theorem clo_X11_isDoor : zk_okc cX11_isDoor cl_X11_isDoor = true := by decide +kernel
def rm_X11_isDoor : Room := { frames := 1, cells := 0, slots := 0, locals := 22 }
def M_X11_isDoor : zk_M := (zk_lkc cl_X11_isDoor, zk_in [], tb_X11, (some (.boolean), 0, 0), (zk_lka [], fun _ _ => none, zk_in [], zk_in [], zk_lka []))
theorem MO_X11_isDoor : zk_MO RX11 cX11_isDoor (yX11_isDoor.name = "<init>") M_X11_isDoor := zk_MO_of clo_X11_isDoor rfl tbo_X11
theorem TO_X11_isDoor : zk_TO RX11 cX11_isDoor rm_X11_isDoor M_X11_isDoor := ⟨fun pc h => absurd (zk_in_mem h) List.not_mem_nil, fun pc h => absurd (zk_in_mem h) List.not_mem_nil, fun pc tag h => absurd (zk_lka_mem h) List.not_mem_nil⟩
theorem THo_X11_isDoor : ∀ pc X, M_X11_isDoor.2.2.2.2.1 pc = some X → zk_TH RX11 cX11_isDoor rm_X11_isDoor pc X := fun pc X h => absurd (zk_lka_mem h) List.not_mem_nil
def cl_X11_isStairs : List (Nat × List (Nat × Instr)) := [(20, [(0, .iload_n 1), (1, .iconst 0), (2, .aload_n 0), (3, .getfield 118), (6, .iconst 1), (7, .isub), (8, .invokestatic 111), (11, .ifCond .eq 18), (14, .aload_n 0), (15, .getfield 68), (18, .iload_n 1), (19, .iaload)]),
  (31, [(20, .bipush (-2)), (22, .if_icmp .eq 7), (25, .iconst 1), (26, .goto 4), (29, .iconst 0), (30, .ireturn)])]
theorem clo_X11_isStairs : zk_okc cX11_isStairs cl_X11_isStairs = true := by decide +kernel
def rm_X11_isStairs : Room := { frames := 1, cells := 0, slots := 0, locals := 22 }
def M_X11_isStairs : zk_M := (zk_lkc cl_X11_isStairs, zk_in [], tb_X11, (some (.boolean), 0, 0), (zk_lka [], fun _ _ => none, zk_in [], zk_in [], zk_lka []))
theorem MO_X11_isStairs : zk_MO RX11 cX11_isStairs (yX11_isStairs.name = "<init>") M_X11_isStairs := zk_MO_of clo_X11_isStairs rfl tbo_X11
theorem TO_X11_isStairs : zk_TO RX11 cX11_isStairs rm_X11_isStairs M_X11_isStairs := ⟨fun pc h => absurd (zk_in_mem h) List.not_mem_nil, fun pc h => absurd (zk_in_mem h) List.not_mem_nil, fun pc tag h => absurd (zk_lka_mem h) List.not_mem_nil⟩
theorem THo_X11_isStairs : ∀ pc X, M_X11_isStairs.2.2.2.2.1 pc = some X → zk_TH RX11 cX11_isStairs rm_X11_isStairs pc X := fun pc X h => absurd (zk_lka_mem h) List.not_mem_nil
def cl_X11_area : List (Nat × List (Nat × Instr)) := [(18, [(0, .aload_n 0), (1, .getfield 13), (4, .iload_n 1), (5, .iaload), (6, .aload_n 0), (7, .getfield 19), (10, .iload_n 1), (11, .iaload), (12, .iadd), (13, .aload_n 0), (14, .getfield 13), (17, .iload_n 2)]),
  (36, [(18, .iaload), (19, .aload_n 0), (20, .getfield 19), (23, .iload_n 2), (24, .iaload), (25, .iadd), (26, .invokestatic 121), (29, .aload_n 0), (30, .getfield 13), (33, .iload_n 1), (34, .iaload), (35, .aload_n 0)]),
  (54, [(36, .getfield 13), (39, .iload_n 2), (40, .iaload), (41, .invokestatic 127), (44, .isub), (45, .istore_n 3), (46, .aload_n 0), (47, .getfield 16), (50, .iload_n 1), (51, .iaload), (52, .aload_n 0), (53, .getfield 22)]),
  (72, [(56, .iload_n 1), (57, .iaload), (58, .iadd), (59, .aload_n 0), (60, .getfield 16), (63, .iload_n 2), (64, .iaload), (65, .aload_n 0), (66, .getfield 22), (69, .iload_n 2), (70, .iaload), (71, .iadd)]),
  (92, [(72, .invokestatic 121), (75, .aload_n 0), (76, .getfield 16), (79, .iload_n 1), (80, .iaload), (81, .aload_n 0), (82, .getfield 16), (85, .iload_n 2), (86, .iaload), (87, .invokestatic 127), (90, .isub), (91, .istore 4)]),
  (111, [(93, .iload_n 3), (94, .ifCond .le 15), (97, .iload 4), (99, .ifCond .le 10), (102, .iload_n 3), (103, .iload 4), (105, .imul), (106, .goto 4), (109, .iconst 0), (110, .ireturn)])]
theorem clo_X11_area : zk_okc cX11_area cl_X11_area = true := by decide +kernel
def rm_X11_area : Room := { frames := 1, cells := 0, slots := 0, locals := 23 }
def M_X11_area : zk_M := (zk_lkc cl_X11_area, zk_in [], tb_X11, (some (.int), 0, 0), (zk_lka [], fun _ _ => none, zk_in [], zk_in [], zk_lka [(26, 0), (41, 1), (72, 0), (87, 1)]))
theorem MO_X11_area : zk_MO RX11 cX11_area (yX11_area.name = "<init>") M_X11_area := zk_MO_of clo_X11_area rfl tbo_X11
theorem TO_X11_area : zk_TO RX11 cX11_area rm_X11_area M_X11_area := ⟨fun pc h => absurd (zk_in_mem h) List.not_mem_nil, fun pc h => absurd (zk_in_mem h) List.not_mem_nil, fun pc tag h => by
    have h2 := zk_lka_mem h
    simp only [List.mem_cons, List.not_mem_nil, or_false, Prod.mk.injEq] at h2
    rcases h2 with ⟨rfl, rfl⟩ | ⟨rfl, rfl⟩ | ⟨rfl, rfl⟩ | ⟨rfl, rfl⟩
    · exact ⟨121, by decide +kernel, zk_wi 1116 (by decide +kernel) rfl, by decide, by decide⟩
    · exact ⟨127, by decide +kernel, zk_wi 1117 (by decide +kernel) rfl, by decide, by decide⟩
    · exact ⟨121, by decide +kernel, zk_wi 1116 (by decide +kernel) rfl, by decide, by decide⟩
    · exact ⟨127, by decide +kernel, zk_wi 1117 (by decide +kernel) rfl, by decide, by decide⟩⟩
theorem THo_X11_area : ∀ pc X, M_X11_area.2.2.2.2.1 pc = some X → zk_TH RX11 cX11_area rm_X11_area pc X := fun pc X h => absurd (zk_lka_mem h) List.not_mem_nil
def cl_X11_addRoom : List (Nat × List (Nat × Instr)) := [(19, [(0, .aload_n 0), (1, .iconst 0), (2, .putfield 104), (5, .iload_n 1), (6, .iconst 0), (7, .iconst 2), (8, .invokestatic 111), (11, .ifCond .eq 55), (14, .iload_n 2), (15, .iconst 0), (16, .bipush 60), (18, .invokestatic 111)]),
  (46, [(21, .ifCond .eq 45), (24, .iload_n 3), (25, .iconst 0), (26, .bipush 60), (28, .invokestatic 111), (31, .ifCond .eq 35), (34, .iload 4), (36, .iconst 1), (37, .bipush 30), (39, .invokestatic 111), (42, .ifCond .eq 24), (45, .iload 5)]),
  (69, [(47, .iconst 1), (48, .bipush 30), (50, .invokestatic 111), (53, .ifCond .eq 13), (56, .iload 6), (58, .iconst 0), (59, .iconst 3), (60, .invokestatic 111), (63, .ifCond .ne 9), (66, .aload_n 0), (67, .iconst 1), (68, .invokevirtual 130)]),
  (92, [(71, .ireturn), (72, .aload_n 0), (73, .getfield 108), (76, .bipush 20), (78, .if_icmp .ne 9), (81, .aload_n 0), (82, .iconst 2), (83, .invokevirtual 130), (86, .ireturn), (87, .aload_n 0), (88, .getfield 9), (91, .aload_n 0)]),
  (112, [(92, .getfield 108), (95, .iload_n 1), (96, .iastore), (97, .aload_n 0), (98, .getfield 13), (101, .aload_n 0), (102, .getfield 108), (105, .iload_n 2), (106, .iastore), (107, .aload_n 0), (108, .getfield 16), (111, .aload_n 0)]),
  (133, [(112, .getfield 108), (115, .iload_n 3), (116, .iastore), (117, .aload_n 0), (118, .getfield 19), (121, .aload_n 0), (122, .getfield 108), (125, .iload 4), (127, .iastore), (128, .aload_n 0), (129, .getfield 22), (132, .aload_n 0)]),
  (155, [(133, .getfield 108), (136, .iload 5), (138, .iastore), (139, .aload_n 0), (140, .getfield 25), (143, .aload_n 0), (144, .getfield 108), (147, .iload 6), (149, .iastore), (150, .aload_n 0), (151, .getfield 28), (154, .aload_n 0)]),
  (177, [(155, .getfield 108), (158, .iconst 0), (159, .iastore), (160, .iconst 0), (161, .istore 7), (163, .iload 7), (165, .aload_n 0), (166, .getfield 108), (169, .if_icmp .ge 39), (172, .aload_n 0), (173, .getfield 9), (176, .iload 7)]),
  (199, [(178, .iaload), (179, .iload_n 1), (180, .if_icmp .ne 22), (183, .aload_n 0), (184, .iload 7), (186, .aload_n 0), (187, .getfield 108), (190, .invokevirtual 134), (193, .ifCond .le 9), (196, .aload_n 0), (197, .iconst 2), (198, .invokevirtual 130)]),
  (220, [(201, .ireturn), (202, .iinc 7 1), (205, .goto (-42)), (208, .aload_n 0), (209, .dup), (210, .getfield 108), (213, .dup_x1), (214, .iconst 1), (215, .iadd), (216, .putfield 108), (219, .ireturn)])]
theorem clo_X11_addRoom : zk_okc cX11_addRoom cl_X11_addRoom = true := by decide +kernel
def rm_X11_addRoom : Room := { frames := 2, cells := 0, slots := 0, locals := 47 }
def M_X11_addRoom : zk_M := (zk_lkc cl_X11_addRoom, zk_in [163], tb_X11, (some (.int), 0, 0), (zk_lka [], fun _ _ => none, zk_in [], zk_in [], zk_lka []))
theorem MO_X11_addRoom : zk_MO RX11 cX11_addRoom (yX11_addRoom.name = "<init>") M_X11_addRoom := zk_MO_of clo_X11_addRoom rfl tbo_X11
theorem TO_X11_addRoom : zk_TO RX11 cX11_addRoom rm_X11_addRoom M_X11_addRoom := ⟨fun pc h => absurd (zk_in_mem h) List.not_mem_nil, fun pc h => absurd (zk_in_mem h) List.not_mem_nil, fun pc tag h => absurd (zk_lka_mem h) List.not_mem_nil⟩
theorem THo_X11_addRoom : ∀ pc X, M_X11_addRoom.2.2.2.2.1 pc = some X → zk_TH RX11 cX11_addRoom rm_X11_addRoom pc X := fun pc X h => absurd (zk_lka_mem h) List.not_mem_nil
def cl_X11_removeRoom : List (Nat × List (Nat × Instr)) := [(20, [(0, .aload_n 0), (1, .iconst 0), (2, .putfield 104), (5, .aload_n 0), (6, .iload_n 1), (7, .invokevirtual 137), (10, .ifCond .ne 9), (13, .aload_n 0), (14, .iconst 1), (15, .invokevirtual 130), (18, .ireturn), (19, .iconst 0)]),
  (38, [(20, .istore_n 2), (21, .iconst 0), (22, .istore_n 3), (23, .iload_n 3), (24, .aload_n 0), (25, .getfield 115), (28, .if_icmp .ge 54), (31, .aload_n 0), (32, .getfield 31), (35, .iload_n 3), (36, .iaload), (37, .bipush (-2))]),
  (59, [(39, .if_icmp .eq 37), (42, .aload_n 0), (43, .getfield 31), (46, .iload_n 3), (47, .iaload), (48, .iload_n 1), (49, .if_icmp .eq 16), (52, .aload_n 0), (53, .getfield 34), (56, .iload_n 3), (57, .iaload), (58, .iload_n 1)]),
  (84, [(59, .if_icmp .eq 6), (62, .goto 14), (65, .aload_n 0), (66, .getfield 31), (69, .iload_n 3), (70, .bipush (-2)), (72, .iastore), (73, .iinc 2 1), (76, .iinc 3 1), (79, .goto (-56)), (82, .iconst 0), (83, .istore_n 3)]),
  (106, [(84, .iload_n 3), (85, .aload_n 0), (86, .getfield 141), (89, .if_icmp .ge 33), (92, .aload_n 0), (93, .getfield 53), (96, .iload_n 3), (97, .iaload), (98, .iload_n 1), (99, .if_icmp .eq 6), (102, .goto 14), (105, .aload_n 0)]),
  (127, [(106, .getfield 53), (109, .iload_n 3), (110, .bipush (-2)), (112, .iastore), (113, .iinc 2 1), (116, .iinc 3 1), (119, .goto (-35)), (122, .iconst 0), (123, .istore_n 3), (124, .iload_n 3), (125, .aload_n 0), (126, .getfield 118)]),
  (150, [(129, .if_icmp .ge 54), (132, .aload_n 0), (133, .getfield 68), (136, .iload_n 3), (137, .iaload), (138, .bipush (-2)), (140, .if_icmp .eq 37), (143, .aload_n 0), (144, .getfield 68), (147, .iload_n 3), (148, .iaload), (149, .iload_n 1)]),
  (172, [(150, .if_icmp .eq 16), (153, .aload_n 0), (154, .getfield 71), (157, .iload_n 3), (158, .iaload), (159, .iload_n 1), (160, .if_icmp .eq 6), (163, .goto 14), (166, .aload_n 0), (167, .getfield 68), (170, .iload_n 3), (171, .bipush (-2))]),
  (193, [(173, .iastore), (174, .iinc 2 1), (177, .iinc 3 1), (180, .goto (-56)), (183, .aload_n 0), (184, .getfield 9), (187, .iload_n 1), (188, .bipush (-2)), (190, .iastore), (191, .iload_n 2), (192, .ireturn)])]
theorem clo_X11_removeRoom : zk_okc cX11_removeRoom cl_X11_removeRoom = true := by decide +kernel
def rm_X11_removeRoom : Room := { frames := 2, cells := 0, slots := 0, locals := 43 }
def M_X11_removeRoom : zk_M := (zk_lkc cl_X11_removeRoom, zk_in [23, 84, 124], tb_X11, (some (.int), 0, 0), (zk_lka [], fun _ _ => none, zk_in [], zk_in [], zk_lka []))
theorem MO_X11_removeRoom : zk_MO RX11 cX11_removeRoom (yX11_removeRoom.name = "<init>") M_X11_removeRoom := zk_MO_of clo_X11_removeRoom rfl tbo_X11
theorem TO_X11_removeRoom : zk_TO RX11 cX11_removeRoom rm_X11_removeRoom M_X11_removeRoom := ⟨fun pc h => absurd (zk_in_mem h) List.not_mem_nil, fun pc h => absurd (zk_in_mem h) List.not_mem_nil, fun pc tag h => absurd (zk_lka_mem h) List.not_mem_nil⟩
theorem THo_X11_removeRoom : ∀ pc X, M_X11_removeRoom.2.2.2.2.1 pc = some X → zk_TH RX11 cX11_removeRoom rm_X11_removeRoom pc X := fun pc X h => absurd (zk_lka_mem h) List.not_mem_nil
def cl_X11_setPeople : List (Nat × List (Nat × Instr)) := [(20, [(0, .aload_n 0), (1, .iconst 0), (2, .putfield 104), (5, .aload_n 0), (6, .iload_n 1), (7, .invokevirtual 137), (10, .ifCond .ne 9), (13, .aload_n 0), (14, .iconst 1), (15, .invokevirtual 130), (18, .ireturn), (19, .iload_n 2)]),
  (42, [(20, .iconst 0), (21, .sipush 200), (24, .invokestatic 111), (27, .ifCond .ne 9), (30, .aload_n 0), (31, .iconst 2), (32, .invokevirtual 130), (35, .ireturn), (36, .aload_n 0), (37, .getfield 28), (40, .iload_n 1), (41, .iaload)]),
  (52, [(42, .istore_n 3), (43, .aload_n 0), (44, .getfield 28), (47, .iload_n 1), (48, .iload_n 2), (49, .iastore), (50, .iload_n 3), (51, .ireturn)])]
theorem clo_X11_setPeople : zk_okc cX11_setPeople cl_X11_setPeople = true := by decide +kernel
def rm_X11_setPeople : Room := { frames := 2, cells := 0, slots := 0, locals := 43 }
def M_X11_setPeople : zk_M := (zk_lkc cl_X11_setPeople, zk_in [], tb_X11, (some (.int), 0, 0), (zk_lka [], fun _ _ => none, zk_in [], zk_in [], zk_lka []))
theorem MO_X11_setPeople : zk_MO RX11 cX11_setPeople (yX11_setPeople.name = "<init>") M_X11_setPeople := zk_MO_of clo_X11_setPeople rfl tbo_X11
theorem TO_X11_setPeople : zk_TO RX11 cX11_setPeople rm_X11_setPeople M_X11_setPeople := ⟨fun pc h => absurd (zk_in_mem h) List.not_mem_nil, fun pc h => absurd (zk_in_mem h) List.not_mem_nil, fun pc tag h => absurd (zk_lka_mem h) List.not_mem_nil⟩
theorem THo_X11_setPeople : ∀ pc X, M_X11_setPeople.2.2.2.2.1 pc = some X → zk_TH RX11 cX11_setPeople rm_X11_setPeople pc X := fun pc X h => absurd (zk_lka_mem h) List.not_mem_nil
def cl_X11_shared : List (Nat × List (Nat × Instr)) := [(23, [(0, .iload_n 2), (1, .iload 6), (3, .if_icmp .ne 22), (6, .iload_n 2), (7, .ifCond .eq 12), (10, .iload_n 0), (11, .iload 4), (13, .if_icmp .eq 14), (16, .goto 9), (19, .iload_n 1), (20, .iload 5), (22, .if_icmp .eq 5)]),
  (42, [(25, .iconst 0), (26, .ireturn), (27, .iload_n 2), (28, .ifCond .eq 8), (31, .iload_n 1), (32, .i2l), (33, .goto 5), (36, .iload_n 0), (37, .i2l), (38, .lstore 8), (40, .iload_n 2), (41, .ifCond .eq 9)]),
  (62, [(44, .iload 5), (46, .i2l), (47, .goto 6), (50, .iload 4), (52, .i2l), (53, .lstore 10), (55, .lconst 0), (56, .lload 8), (58, .iload_n 3), (59, .i2l), (60, .ladd), (61, .lload 10)]),
  (83, [(63, .iload 7), (65, .i2l), (66, .ladd), (67, .invokestatic 144), (70, .lload 8), (72, .lload 10), (74, .invokestatic 147), (77, .lsub), (78, .invokestatic 147), (81, .l2i), (82, .ireturn)])]
theorem clo_X11_shared : zk_okc cX11_shared cl_X11_shared = true := by decide +kernel
def rm_X11_shared : Room := { frames := 1, cells := 0, slots := 0, locals := 23 }
def M_X11_shared : zk_M := (zk_lkc cl_X11_shared, zk_in [], tb_X11, (some (.int), 0, 0), (zk_lka [], fun _ _ => none, zk_in [], zk_in [], zk_lka [(67, 3), (74, 4), (78, 4)]))
theorem MO_X11_shared : zk_MO RX11 cX11_shared (yX11_shared.name = "<init>") M_X11_shared := zk_MO_of clo_X11_shared rfl tbo_X11
theorem TO_X11_shared : zk_TO RX11 cX11_shared rm_X11_shared M_X11_shared := ⟨fun pc h => absurd (zk_in_mem h) List.not_mem_nil, fun pc h => absurd (zk_in_mem h) List.not_mem_nil, fun pc tag h => by
    have h2 := zk_lka_mem h
    simp only [List.mem_cons, List.not_mem_nil, or_false, Prod.mk.injEq] at h2
    rcases h2 with ⟨rfl, rfl⟩ | ⟨rfl, rfl⟩ | ⟨rfl, rfl⟩
    · exact ⟨144, by decide +kernel, zk_wi 1145 (by decide +kernel) rfl, by decide, by decide⟩
    · exact ⟨147, by decide +kernel, zk_wi 1148 (by decide +kernel) rfl, by decide, by decide⟩
    · exact ⟨147, by decide +kernel, zk_wi 1148 (by decide +kernel) rfl, by decide, by decide⟩⟩
theorem THo_X11_shared : ∀ pc X, M_X11_shared.2.2.2.2.1 pc = some X → zk_TH RX11 cX11_shared rm_X11_shared pc X := fun pc X h => absurd (zk_lka_mem h) List.not_mem_nil
def cl_X11_onSides : List (Nat × List (Nat × Instr)) := [(21, [(0, .iload 4), (2, .ifCond .eq 12), (5, .aload_n 0), (6, .getfield 22), (9, .iload_n 1), (10, .iaload), (11, .goto 9), (14, .aload_n 0), (15, .getfield 19), (18, .iload_n 1), (19, .iaload), (20, .istore 6)]),
  (40, [(22, .iload_n 2), (23, .iload_n 3), (24, .iload 4), (26, .iload 5), (28, .aload_n 0), (29, .getfield 13), (32, .iload_n 1), (33, .iaload), (34, .aload_n 0), (35, .getfield 16), (38, .iload_n 1), (39, .iaload)]),
  (63, [(40, .iload 4), (42, .iload 6), (44, .invokestatic 149), (47, .istore 7), (49, .iload 7), (51, .iload_n 2), (52, .iload_n 3), (53, .iload 4), (55, .iload 5), (57, .iload 4), (59, .ifCond .eq 19), (62, .aload_n 0)]),
  (83, [(63, .getfield 13), (66, .iload_n 1), (67, .iaload), (68, .aload_n 0), (69, .getfield 19), (72, .iload_n 1), (73, .iaload), (74, .iadd), (75, .goto 9), (78, .aload_n 0), (79, .getfield 13), (82, .iload_n 1)]),
  (104, [(83, .iaload), (84, .iload 4), (86, .ifCond .eq 12), (89, .aload_n 0), (90, .getfield 16), (93, .iload_n 1), (94, .iaload), (95, .goto 16), (98, .aload_n 0), (99, .getfield 16), (102, .iload_n 1), (103, .iaload)]),
  (120, [(104, .aload_n 0), (105, .getfield 22), (108, .iload_n 1), (109, .iaload), (110, .iadd), (111, .iload 4), (113, .iload 6), (115, .invokestatic 149), (118, .iadd), (119, .ireturn)])]
theorem clo_X11_onSides : zk_okc cX11_onSides cl_X11_onSides = true := by decide +kernel
def rm_X11_onSides : Room := { frames := 2, cells := 0, slots := 0, locals := 54 }
def M_X11_onSides : zk_M := (zk_lkc cl_X11_onSides, zk_in [], tb_X11, (some (.int), 0, 0), (zk_lka [], fun _ _ => none, zk_in [], zk_in [], zk_lka []))
theorem MO_X11_onSides : zk_MO RX11 cX11_onSides (yX11_onSides.name = "<init>") M_X11_onSides := zk_MO_of clo_X11_onSides rfl tbo_X11
theorem TO_X11_onSides : zk_TO RX11 cX11_onSides rm_X11_onSides M_X11_onSides := ⟨fun pc h => absurd (zk_in_mem h) List.not_mem_nil, fun pc h => absurd (zk_in_mem h) List.not_mem_nil, fun pc tag h => absurd (zk_lka_mem h) List.not_mem_nil⟩
theorem THo_X11_onSides : ∀ pc X, M_X11_onSides.2.2.2.2.1 pc = some X → zk_TH RX11 cX11_onSides rm_X11_onSides pc X := fun pc X h => absurd (zk_lka_mem h) List.not_mem_nil
def cl_X11_canBe : List (Nat × List (Nat × Instr)) := [(20, [(0, .aload_n 0), (1, .iload_n 1), (2, .iload_n 3), (3, .iload 4), (5, .iload 5), (7, .iload 6), (9, .invokevirtual 153), (12, .iload 6), (14, .if_icmp .ge 5), (17, .iconst 0), (18, .ireturn), (19, .iload_n 2)]),
  (42, [(20, .iconst (-1)), (21, .if_icmp .eq 22), (24, .aload_n 0), (25, .iload_n 2), (26, .iload_n 3), (27, .iload 4), (29, .iload 5), (31, .iload 6), (33, .invokevirtual 153), (36, .iload 6), (38, .if_icmp .ge 5), (41, .iconst 0)]),
  (63, [(42, .ireturn), (43, .iconst 0), (44, .istore 7), (46, .iload 7), (48, .aload_n 0), (49, .getfield 108), (52, .if_icmp .ge 54), (55, .iload_n 2), (56, .iconst (-1)), (57, .if_icmp .ne 49), (60, .iload 7), (62, .iload_n 1)]),
  (84, [(63, .if_icmp .eq 37), (66, .aload_n 0), (67, .getfield 9), (70, .iload 7), (72, .iaload), (73, .aload_n 0), (74, .getfield 9), (77, .iload_n 1), (78, .iaload), (79, .if_icmp .ne 21), (82, .aload_n 0), (83, .iload 7)]),
  (108, [(85, .iload_n 3), (86, .iload 4), (88, .iload 5), (90, .iload 6), (92, .invokevirtual 153), (95, .ifCond .le 5), (98, .iconst 0), (99, .ireturn), (100, .iinc 7 1), (103, .goto (-57)), (106, .iconst 0), (107, .istore 7)]),
  (132, [(109, .iload 7), (111, .aload_n 0), (112, .getfield 115), (115, .if_icmp .ge 85), (118, .aload_n 0), (119, .getfield 31), (122, .iload 7), (124, .iaload), (125, .bipush (-2)), (127, .if_icmp .eq 67), (130, .aload_n 0), (131, .getfield 9)]),
  (153, [(134, .aload_n 0), (135, .getfield 31), (138, .iload 7), (140, .iaload), (141, .iaload), (142, .aload_n 0), (143, .getfield 9), (146, .iload_n 1), (147, .iaload), (148, .if_icmp .ne 46), (151, .iload_n 3), (152, .iload 4)]),
  (174, [(154, .iload 5), (156, .iload 6), (158, .aload_n 0), (159, .getfield 37), (162, .iload 7), (164, .iaload), (165, .aload_n 0), (166, .getfield 40), (169, .iload 7), (171, .iaload), (172, .aload_n 0), (173, .getfield 46)]),
  (198, [(176, .iload 7), (178, .baload), (179, .aload_n 0), (180, .getfield 43), (183, .iload 7), (185, .iaload), (186, .invokestatic 149), (189, .ifCond .le 5), (192, .iconst 0), (193, .ireturn), (194, .iinc 7 1), (197, .goto (-88))]),
  (222, [(200, .iconst 0), (201, .istore 7), (203, .iload 7), (205, .aload_n 0), (206, .getfield 141), (209, .if_icmp .ge 85), (212, .aload_n 0), (213, .getfield 53), (216, .iload 7), (218, .iaload), (219, .bipush (-2)), (221, .if_icmp .eq 67)]),
  (243, [(224, .aload_n 0), (225, .getfield 9), (228, .aload_n 0), (229, .getfield 53), (232, .iload 7), (234, .iaload), (235, .iaload), (236, .aload_n 0), (237, .getfield 9), (240, .iload_n 1), (241, .iaload), (242, .if_icmp .ne 46)]),
  (266, [(245, .iload_n 3), (246, .iload 4), (248, .iload 5), (250, .iload 6), (252, .aload_n 0), (253, .getfield 56), (256, .iload 7), (258, .iaload), (259, .aload_n 0), (260, .getfield 59), (263, .iload 7), (265, .iaload)]),
  (288, [(266, .aload_n 0), (267, .getfield 65), (270, .iload 7), (272, .baload), (273, .aload_n 0), (274, .getfield 62), (277, .iload 7), (279, .iaload), (280, .invokestatic 149), (283, .ifCond .le 5), (286, .iconst 0), (287, .ireturn)]),
  (296, [(288, .iinc 7 1), (291, .goto (-88)), (294, .iconst 1), (295, .ireturn)])]
theorem clo_X11_canBe : zk_okc cX11_canBe cl_X11_canBe = true := by decide +kernel
def rm_X11_canBe : Room := { frames := 3, cells := 0, slots := 0, locals := 81 }
def M_X11_canBe : zk_M := (zk_lkc cl_X11_canBe, zk_in [46, 109, 203], tb_X11, (some (.boolean), 0, 0), (zk_lka [], fun _ _ => none, zk_in [], zk_in [], zk_lka []))
theorem MO_X11_canBe : zk_MO RX11 cX11_canBe (yX11_canBe.name = "<init>") M_X11_canBe := zk_MO_of clo_X11_canBe rfl tbo_X11
theorem TO_X11_canBe : zk_TO RX11 cX11_canBe rm_X11_canBe M_X11_canBe := ⟨fun pc h => absurd (zk_in_mem h) List.not_mem_nil, fun pc h => absurd (zk_in_mem h) List.not_mem_nil, fun pc tag h => absurd (zk_lka_mem h) List.not_mem_nil⟩
theorem THo_X11_canBe : ∀ pc X, M_X11_canBe.2.2.2.2.1 pc = some X → zk_TH RX11 cX11_canBe rm_X11_canBe pc X := fun pc X h => absurd (zk_lka_mem h) List.not_mem_nil
def cl_X11_addDoor : List (Nat × List (Nat × Instr)) := [(20, [(0, .aload_n 0), (1, .iconst 0), (2, .putfield 104), (5, .aload_n 0), (6, .iload_n 1), (7, .invokevirtual 137), (10, .ifCond .eq 16), (13, .iload_n 2), (14, .iconst (-1)), (15, .if_icmp .eq 17), (18, .aload_n 0), (19, .iload_n 2)]),
  (44, [(20, .invokevirtual 137), (23, .ifCond .ne 9), (26, .aload_n 0), (27, .iconst 1), (28, .invokevirtual 130), (31, .ireturn), (32, .iload 6), (34, .iconst 1), (35, .bipush 6), (37, .invokestatic 111), (40, .ifCond .eq 40), (43, .iload_n 2)]),
  (66, [(44, .iconst (-1)), (45, .if_icmp .ne 15), (48, .aload_n 0), (49, .getfield 9), (52, .iload_n 1), (53, .iaload), (54, .ifCond .eq 32), (57, .goto 23), (60, .iload_n 2), (61, .iload_n 1), (62, .if_icmp .eq 18), (65, .aload_n 0)]),
  (86, [(66, .getfield 9), (69, .iload_n 2), (70, .iaload), (71, .aload_n 0), (72, .getfield 9), (75, .iload_n 1), (76, .iaload), (77, .if_icmp .eq 9), (80, .aload_n 0), (81, .iconst 2), (82, .invokevirtual 130), (85, .ireturn)]),
  (106, [(86, .aload_n 0), (87, .getfield 115), (90, .bipush 40), (92, .if_icmp .eq 19), (95, .aload_n 0), (96, .iload_n 1), (97, .iload_n 2), (98, .iload_n 3), (99, .iload 4), (101, .iload 5), (103, .iload 6), (105, .invokevirtual 157)]),
  (128, [(108, .ifCond .ne 9), (111, .aload_n 0), (112, .iconst 3), (113, .invokevirtual 130), (116, .ireturn), (117, .aload_n 0), (118, .getfield 31), (121, .aload_n 0), (122, .getfield 115), (125, .iload_n 1), (126, .iastore), (127, .aload_n 0)]),
  (148, [(128, .getfield 34), (131, .aload_n 0), (132, .getfield 115), (135, .iload_n 2), (136, .iastore), (137, .aload_n 0), (138, .getfield 37), (141, .aload_n 0), (142, .getfield 115), (145, .iload_n 3), (146, .iastore), (147, .aload_n 0)]),
  (170, [(148, .getfield 40), (151, .aload_n 0), (152, .getfield 115), (155, .iload 4), (157, .iastore), (158, .aload_n 0), (159, .getfield 46), (162, .aload_n 0), (163, .getfield 115), (166, .iload 5), (168, .bastore), (169, .aload_n 0)]),
  (189, [(170, .getfield 43), (173, .aload_n 0), (174, .getfield 115), (177, .iload 6), (179, .iastore), (180, .aload_n 0), (181, .dup), (182, .getfield 115), (185, .dup_x1), (186, .iconst 1), (187, .iadd), (188, .putfield 115)]),
  (192, [(191, .ireturn)])]
theorem clo_X11_addDoor : zk_okc cX11_addDoor cl_X11_addDoor = true := by decide +kernel
def rm_X11_addDoor : Room := { frames := 4, cells := 0, slots := 0, locals := 108 }
def M_X11_addDoor : zk_M := (zk_lkc cl_X11_addDoor, zk_in [], tb_X11, (some (.int), 0, 0), (zk_lka [], fun _ _ => none, zk_in [], zk_in [], zk_lka []))
theorem MO_X11_addDoor : zk_MO RX11 cX11_addDoor (yX11_addDoor.name = "<init>") M_X11_addDoor := zk_MO_of clo_X11_addDoor rfl tbo_X11
theorem TO_X11_addDoor : zk_TO RX11 cX11_addDoor rm_X11_addDoor M_X11_addDoor := ⟨fun pc h => absurd (zk_in_mem h) List.not_mem_nil, fun pc h => absurd (zk_in_mem h) List.not_mem_nil, fun pc tag h => absurd (zk_lka_mem h) List.not_mem_nil⟩
theorem THo_X11_addDoor : ∀ pc X, M_X11_addDoor.2.2.2.2.1 pc = some X → zk_TH RX11 cX11_addDoor rm_X11_addDoor pc X := fun pc X h => absurd (zk_lka_mem h) List.not_mem_nil
def cl_X11_light : List (Nat × List (Nat × Instr)) := [(18, [(0, .iconst 0), (1, .istore_n 2), (2, .iconst 0), (3, .istore_n 3), (4, .iload_n 3), (5, .aload_n 0), (6, .getfield 141), (9, .if_icmp .ge 32), (12, .iload_n 2), (13, .aload_n 0), (14, .getfield 53), (17, .iload_n 3)]),
  (36, [(18, .iaload), (19, .iload_n 1), (20, .if_icmp .ne 12), (23, .aload_n 0), (24, .getfield 62), (27, .iload_n 3), (28, .iaload), (29, .goto 4), (32, .iconst 0), (33, .iadd), (34, .istore_n 2), (35, .iinc 3 1)]),
  (43, [(38, .goto (-34)), (41, .iload_n 2), (42, .ireturn)])]
theorem clo_X11_light : zk_okc cX11_light cl_X11_light = true := by decide +kernel
def rm_X11_light : Room := { frames := 0, cells := 0, slots := 0, locals := 0 }
def M_X11_light : zk_M := (zk_lkc cl_X11_light, zk_in [4], tb_X11, (some (.int), 0, 0), (zk_lka [], fun _ _ => none, zk_in [], zk_in [], zk_lka []))
theorem MO_X11_light : zk_MO RX11 cX11_light (yX11_light.name = "<init>") M_X11_light := zk_MO_of clo_X11_light rfl tbo_X11
theorem TO_X11_light : zk_TO RX11 cX11_light rm_X11_light M_X11_light := ⟨fun pc h => absurd (zk_in_mem h) List.not_mem_nil, fun pc h => absurd (zk_in_mem h) List.not_mem_nil, fun pc tag h => absurd (zk_lka_mem h) List.not_mem_nil⟩
theorem THo_X11_light : ∀ pc X, M_X11_light.2.2.2.2.1 pc = some X → zk_TH RX11 cX11_light rm_X11_light pc X := fun pc X h => absurd (zk_lka_mem h) List.not_mem_nil
def cl_X11_addWindow : List (Nat × List (Nat × Instr)) := [(20, [(0, .aload_n 0), (1, .iconst 0), (2, .putfield 104), (5, .aload_n 0), (6, .iload_n 1), (7, .invokevirtual 137), (10, .ifCond .ne 9), (13, .aload_n 0), (14, .iconst 1), (15, .invokevirtual 130), (18, .ireturn), (19, .iload 5)]),
  (43, [(21, .iconst 1), (22, .bipush 6), (24, .invokestatic 111), (27, .ifCond .ne 9), (30, .aload_n 0), (31, .iconst 2), (32, .invokevirtual 130), (35, .ireturn), (36, .aload_n 0), (37, .getfield 141), (40, .bipush 40), (42, .if_icmp .eq 18)]),
  (63, [(45, .aload_n 0), (46, .iload_n 1), (47, .iconst (-1)), (48, .iload_n 2), (49, .iload_n 3), (50, .iload 4), (52, .iload 5), (54, .invokevirtual 157), (57, .ifCond .ne 9), (60, .aload_n 0), (61, .iconst 3), (62, .invokevirtual 130)]),
  (85, [(65, .ireturn), (66, .aload_n 0), (67, .getfield 53), (70, .aload_n 0), (71, .getfield 141), (74, .iload_n 1), (75, .iastore), (76, .aload_n 0), (77, .getfield 56), (80, .aload_n 0), (81, .getfield 141), (84, .iload_n 2)]),
  (105, [(85, .iastore), (86, .aload_n 0), (87, .getfield 59), (90, .aload_n 0), (91, .getfield 141), (94, .iload_n 3), (95, .iastore), (96, .aload_n 0), (97, .getfield 65), (100, .aload_n 0), (101, .getfield 141), (104, .iload 4)]),
  (125, [(106, .bastore), (107, .aload_n 0), (108, .getfield 62), (111, .aload_n 0), (112, .dup), (113, .getfield 141), (116, .dup_x1), (117, .iconst 1), (118, .iadd), (119, .putfield 141), (122, .iload 5), (124, .iastore)]),
  (131, [(125, .aload_n 0), (126, .iload_n 1), (127, .invokevirtual 161), (130, .ireturn)])]
theorem clo_X11_addWindow : zk_okc cX11_addWindow cl_X11_addWindow = true := by decide +kernel
def rm_X11_addWindow : Room := { frames := 4, cells := 0, slots := 0, locals := 108 }
def M_X11_addWindow : zk_M := (zk_lkc cl_X11_addWindow, zk_in [], tb_X11, (some (.int), 0, 0), (zk_lka [], fun _ _ => none, zk_in [], zk_in [], zk_lka []))
theorem MO_X11_addWindow : zk_MO RX11 cX11_addWindow (yX11_addWindow.name = "<init>") M_X11_addWindow := zk_MO_of clo_X11_addWindow rfl tbo_X11
theorem TO_X11_addWindow : zk_TO RX11 cX11_addWindow rm_X11_addWindow M_X11_addWindow := ⟨fun pc h => absurd (zk_in_mem h) List.not_mem_nil, fun pc h => absurd (zk_in_mem h) List.not_mem_nil, fun pc tag h => absurd (zk_lka_mem h) List.not_mem_nil⟩
theorem THo_X11_addWindow : ∀ pc X, M_X11_addWindow.2.2.2.2.1 pc = some X → zk_TH RX11 cX11_addWindow rm_X11_addWindow pc X := fun pc X h => absurd (zk_lka_mem h) List.not_mem_nil
def cl_X11_isPointOf : List (Nat × List (Nat × Instr)) := [(18, [(0, .iload_n 2), (1, .aload_n 0), (2, .getfield 13), (5, .iload_n 1), (6, .iaload), (7, .aload_n 0), (8, .getfield 13), (11, .iload_n 1), (12, .iaload), (13, .aload_n 0), (14, .getfield 19), (17, .iload_n 1)]),
  (38, [(18, .iaload), (19, .iadd), (20, .invokestatic 111), (23, .ifCond .eq 33), (26, .iload_n 3), (27, .aload_n 0), (28, .getfield 16), (31, .iload_n 1), (32, .iaload), (33, .aload_n 0), (34, .getfield 16), (37, .iload_n 1)]),
  (58, [(38, .iaload), (39, .aload_n 0), (40, .getfield 22), (43, .iload_n 1), (44, .iaload), (45, .iadd), (46, .invokestatic 111), (49, .ifCond .eq 7), (52, .iconst 1), (53, .goto 4), (56, .iconst 0), (57, .ireturn)])]
theorem clo_X11_isPointOf : zk_okc cX11_isPointOf cl_X11_isPointOf = true := by decide +kernel
def rm_X11_isPointOf : Room := { frames := 1, cells := 0, slots := 0, locals := 22 }
def M_X11_isPointOf : zk_M := (zk_lkc cl_X11_isPointOf, zk_in [], tb_X11, (some (.boolean), 0, 0), (zk_lka [], fun _ _ => none, zk_in [], zk_in [], zk_lka []))
theorem MO_X11_isPointOf : zk_MO RX11 cX11_isPointOf (yX11_isPointOf.name = "<init>") M_X11_isPointOf := zk_MO_of clo_X11_isPointOf rfl tbo_X11
theorem TO_X11_isPointOf : zk_TO RX11 cX11_isPointOf rm_X11_isPointOf M_X11_isPointOf := ⟨fun pc h => absurd (zk_in_mem h) List.not_mem_nil, fun pc h => absurd (zk_in_mem h) List.not_mem_nil, fun pc tag h => absurd (zk_lka_mem h) List.not_mem_nil⟩
theorem THo_X11_isPointOf : ∀ pc X, M_X11_isPointOf.2.2.2.2.1 pc = some X → zk_TH RX11 cX11_isPointOf rm_X11_isPointOf pc X := fun pc X h => absurd (zk_lka_mem h) List.not_mem_nil
def cl_X11_addStairs : List (Nat × List (Nat × Instr)) := [(22, [(0, .aload_n 0), (1, .iconst 0), (2, .putfield 104), (5, .aload_n 0), (6, .iload_n 1), (7, .invokevirtual 137), (10, .ifCond .eq 11), (13, .aload_n 0), (14, .iload_n 2), (15, .invokevirtual 137), (18, .ifCond .ne 9), (21, .aload_n 0)]),
  (40, [(22, .iconst 1), (23, .invokevirtual 130), (26, .ireturn), (27, .aload_n 0), (28, .getfield 9), (31, .iload_n 2), (32, .iaload), (33, .aload_n 0), (34, .getfield 9), (37, .iload_n 1), (38, .iaload), (39, .iconst 1)]),
  (59, [(40, .iadd), (41, .if_icmp .ne 25), (44, .aload_n 0), (45, .iload_n 1), (46, .iload_n 3), (47, .iload 4), (49, .invokevirtual 164), (52, .ifCond .eq 14), (55, .aload_n 0), (56, .iload_n 2), (57, .iload_n 3), (58, .iload 4)]),
  (83, [(60, .invokevirtual 164), (63, .ifCond .ne 9), (66, .aload_n 0), (67, .iconst 2), (68, .invokevirtual 130), (71, .ireturn), (72, .aload_n 0), (73, .getfield 118), (76, .bipush 10), (78, .if_icmp .ne 9), (81, .aload_n 0), (82, .iconst 3)]),
  (103, [(83, .invokevirtual 130), (86, .ireturn), (87, .aload_n 0), (88, .getfield 68), (91, .aload_n 0), (92, .getfield 118), (95, .iload_n 1), (96, .iastore), (97, .aload_n 0), (98, .getfield 71), (101, .aload_n 0), (102, .getfield 118)]),
  (123, [(105, .iload_n 2), (106, .iastore), (107, .aload_n 0), (108, .getfield 74), (111, .aload_n 0), (112, .getfield 118), (115, .iload_n 3), (116, .iastore), (117, .aload_n 0), (118, .getfield 77), (121, .aload_n 0), (122, .getfield 118)]),
  (140, [(125, .iload 4), (127, .iastore), (128, .aload_n 0), (129, .dup), (130, .getfield 118), (133, .dup_x1), (134, .iconst 1), (135, .iadd), (136, .putfield 118), (139, .ireturn)])]
theorem clo_X11_addStairs : zk_okc cX11_addStairs cl_X11_addStairs = true := by decide +kernel
def rm_X11_addStairs : Room := { frames := 2, cells := 0, slots := 0, locals := 45 }
def M_X11_addStairs : zk_M := (zk_lkc cl_X11_addStairs, zk_in [], tb_X11, (some (.int), 0, 0), (zk_lka [], fun _ _ => none, zk_in [], zk_in [], zk_lka []))
theorem MO_X11_addStairs : zk_MO RX11 cX11_addStairs (yX11_addStairs.name = "<init>") M_X11_addStairs := zk_MO_of clo_X11_addStairs rfl tbo_X11
theorem TO_X11_addStairs : zk_TO RX11 cX11_addStairs rm_X11_addStairs M_X11_addStairs := ⟨fun pc h => absurd (zk_in_mem h) List.not_mem_nil, fun pc h => absurd (zk_in_mem h) List.not_mem_nil, fun pc tag h => absurd (zk_lka_mem h) List.not_mem_nil⟩
theorem THo_X11_addStairs : ∀ pc X, M_X11_addStairs.2.2.2.2.1 pc = some X → zk_TH RX11 cX11_addStairs rm_X11_addStairs pc X := fun pc X h => absurd (zk_lka_mem h) List.not_mem_nil
def cl_X11_shut : List (Nat × List (Nat × Instr)) := [(20, [(0, .aload_n 0), (1, .iconst 0), (2, .putfield 104), (5, .aload_n 0), (6, .iload_n 1), (7, .invokevirtual 167), (10, .ifCond .ne 9), (13, .aload_n 0), (14, .iconst 1), (15, .invokevirtual 170), (18, .ireturn), (19, .aload_n 0)]),
  (35, [(20, .getfield 50), (23, .iload_n 1), (24, .baload), (25, .istore_n 3), (26, .aload_n 0), (27, .getfield 50), (30, .iload_n 1), (31, .iload_n 2), (32, .bastore), (33, .iload_n 3), (34, .ireturn)])]
theorem clo_X11_shut : zk_okc cX11_shut cl_X11_shut = true := by decide +kernel
def rm_X11_shut : Room := { frames := 2, cells := 0, slots := 0, locals := 43 }
def M_X11_shut : zk_M := (zk_lkc cl_X11_shut, zk_in [], tb_X11, (some (.boolean), 0, 0), (zk_lka [], fun _ _ => none, zk_in [], zk_in [], zk_lka []))
theorem MO_X11_shut : zk_MO RX11 cX11_shut (yX11_shut.name = "<init>") M_X11_shut := zk_MO_of clo_X11_shut rfl tbo_X11
theorem TO_X11_shut : zk_TO RX11 cX11_shut rm_X11_shut M_X11_shut := ⟨fun pc h => absurd (zk_in_mem h) List.not_mem_nil, fun pc h => absurd (zk_in_mem h) List.not_mem_nil, fun pc tag h => absurd (zk_lka_mem h) List.not_mem_nil⟩
theorem THo_X11_shut : ∀ pc X, M_X11_shut.2.2.2.2.1 pc = some X → zk_TH RX11 cX11_shut rm_X11_shut pc X := fun pc X h => absurd (zk_lka_mem h) List.not_mem_nil
def cl_X11_doorsNow : List (Nat × List (Nat × Instr)) := [(18, [(0, .iconst 0), (1, .istore_n 1), (2, .iconst 0), (3, .istore_n 2), (4, .iload_n 2), (5, .aload_n 0), (6, .getfield 115), (9, .if_icmp .ge 28), (12, .iload_n 1), (13, .aload_n 0), (14, .getfield 31), (17, .iload_n 2)]),
  (39, [(18, .iaload), (19, .bipush (-2)), (21, .if_icmp .ne 7), (24, .iconst 0), (25, .goto 4), (28, .iconst 1), (29, .iadd), (30, .istore_n 1), (31, .iinc 2 1), (34, .goto (-30)), (37, .iload_n 1), (38, .ireturn)])]
theorem clo_X11_doorsNow : zk_okc cX11_doorsNow cl_X11_doorsNow = true := by decide +kernel
def rm_X11_doorsNow : Room := { frames := 0, cells := 0, slots := 0, locals := 0 }
def M_X11_doorsNow : zk_M := (zk_lkc cl_X11_doorsNow, zk_in [4], tb_X11, (some (.int), 0, 0), (zk_lka [], fun _ _ => none, zk_in [], zk_in [], zk_lka []))
theorem MO_X11_doorsNow : zk_MO RX11 cX11_doorsNow (yX11_doorsNow.name = "<init>") M_X11_doorsNow := zk_MO_of clo_X11_doorsNow rfl tbo_X11
theorem TO_X11_doorsNow : zk_TO RX11 cX11_doorsNow rm_X11_doorsNow M_X11_doorsNow := ⟨fun pc h => absurd (zk_in_mem h) List.not_mem_nil, fun pc h => absurd (zk_in_mem h) List.not_mem_nil, fun pc tag h => absurd (zk_lka_mem h) List.not_mem_nil⟩
theorem THo_X11_doorsNow : ∀ pc X, M_X11_doorsNow.2.2.2.2.1 pc = some X → zk_TH RX11 cX11_doorsNow rm_X11_doorsNow pc X := fun pc X h => absurd (zk_lka_mem h) List.not_mem_nil
def cl_X11_removeDoor : List (Nat × List (Nat × Instr)) := [(20, [(0, .aload_n 0), (1, .iconst 0), (2, .putfield 104), (5, .aload_n 0), (6, .iload_n 1), (7, .invokevirtual 167), (10, .ifCond .ne 9), (13, .aload_n 0), (14, .iconst 1), (15, .invokevirtual 130), (18, .ireturn), (19, .aload_n 0)]),
  (32, [(20, .getfield 31), (23, .iload_n 1), (24, .bipush (-2)), (26, .iastore), (27, .aload_n 0), (28, .invokevirtual 173), (31, .ireturn)])]
theorem clo_X11_removeDoor : zk_okc cX11_removeDoor cl_X11_removeDoor = true := by decide +kernel
def rm_X11_removeDoor : Room := { frames := 2, cells := 0, slots := 0, locals := 43 }
def M_X11_removeDoor : zk_M := (zk_lkc cl_X11_removeDoor, zk_in [], tb_X11, (some (.int), 0, 0), (zk_lka [], fun _ _ => none, zk_in [], zk_in [], zk_lka []))
theorem MO_X11_removeDoor : zk_MO RX11 cX11_removeDoor (yX11_removeDoor.name = "<init>") M_X11_removeDoor := zk_MO_of clo_X11_removeDoor rfl tbo_X11
theorem TO_X11_removeDoor : zk_TO RX11 cX11_removeDoor rm_X11_removeDoor M_X11_removeDoor := ⟨fun pc h => absurd (zk_in_mem h) List.not_mem_nil, fun pc h => absurd (zk_in_mem h) List.not_mem_nil, fun pc tag h => absurd (zk_lka_mem h) List.not_mem_nil⟩
theorem THo_X11_removeDoor : ∀ pc X, M_X11_removeDoor.2.2.2.2.1 pc = some X → zk_TH RX11 cX11_removeDoor rm_X11_removeDoor pc X := fun pc X h => absurd (zk_lka_mem h) List.not_mem_nil
def cl_X11_setLimit : List (Nat × List (Nat × Instr)) := [(21, [(0, .aload_n 0), (1, .iconst 0), (2, .putfield 104), (5, .iload_n 1), (6, .iconst 0), (7, .bipush 9), (9, .invokestatic 111), (12, .ifCond .ne 9), (15, .aload_n 0), (16, .iconst 1), (17, .invokevirtual 130), (20, .ireturn)]),
  (43, [(21, .iload_n 2), (22, .iconst 0), (23, .sipush 999), (26, .invokestatic 111), (29, .ifCond .ne 9), (32, .aload_n 0), (33, .iconst 2), (34, .invokevirtual 130), (37, .ireturn), (38, .aload_n 0), (39, .getfield 80), (42, .iload_n 1)]),
  (54, [(43, .iaload), (44, .istore_n 3), (45, .aload_n 0), (46, .getfield 80), (49, .iload_n 1), (50, .iload_n 2), (51, .iastore), (52, .iload_n 3), (53, .ireturn)])]
theorem clo_X11_setLimit : zk_okc cX11_setLimit cl_X11_setLimit = true := by decide +kernel
def rm_X11_setLimit : Room := { frames := 1, cells := 0, slots := 0, locals := 22 }
def M_X11_setLimit : zk_M := (zk_lkc cl_X11_setLimit, zk_in [], tb_X11, (some (.int), 0, 0), (zk_lka [], fun _ _ => none, zk_in [], zk_in [], zk_lka []))
theorem MO_X11_setLimit : zk_MO RX11 cX11_setLimit (yX11_setLimit.name = "<init>") M_X11_setLimit := zk_MO_of clo_X11_setLimit rfl tbo_X11
theorem TO_X11_setLimit : zk_TO RX11 cX11_setLimit rm_X11_setLimit M_X11_setLimit := ⟨fun pc h => absurd (zk_in_mem h) List.not_mem_nil, fun pc h => absurd (zk_in_mem h) List.not_mem_nil, fun pc tag h => absurd (zk_lka_mem h) List.not_mem_nil⟩
theorem THo_X11_setLimit : ∀ pc X, M_X11_setLimit.2.2.2.2.1 pc = some X → zk_TH RX11 cX11_setLimit rm_X11_setLimit pc X := fun pc X h => absurd (zk_lka_mem h) List.not_mem_nil
def cl_X11_roomsNow : List (Nat × List (Nat × Instr)) := [(18, [(0, .iconst 0), (1, .istore_n 1), (2, .iconst 0), (3, .istore_n 2), (4, .iload_n 2), (5, .aload_n 0), (6, .getfield 108), (9, .if_icmp .ge 28), (12, .iload_n 1), (13, .aload_n 0), (14, .getfield 9), (17, .iload_n 2)]),
  (39, [(18, .iaload), (19, .bipush (-2)), (21, .if_icmp .ne 7), (24, .iconst 0), (25, .goto 4), (28, .iconst 1), (29, .iadd), (30, .istore_n 1), (31, .iinc 2 1), (34, .goto (-30)), (37, .iload_n 1), (38, .ireturn)])]
theorem clo_X11_roomsNow : zk_okc cX11_roomsNow cl_X11_roomsNow = true := by decide +kernel
def rm_X11_roomsNow : Room := { frames := 0, cells := 0, slots := 0, locals := 0 }
def M_X11_roomsNow : zk_M := (zk_lkc cl_X11_roomsNow, zk_in [4], tb_X11, (some (.int), 0, 0), (zk_lka [], fun _ _ => none, zk_in [], zk_in [], zk_lka []))
theorem MO_X11_roomsNow : zk_MO RX11 cX11_roomsNow (yX11_roomsNow.name = "<init>") M_X11_roomsNow := zk_MO_of clo_X11_roomsNow rfl tbo_X11
theorem TO_X11_roomsNow : zk_TO RX11 cX11_roomsNow rm_X11_roomsNow M_X11_roomsNow := ⟨fun pc h => absurd (zk_in_mem h) List.not_mem_nil, fun pc h => absurd (zk_in_mem h) List.not_mem_nil, fun pc tag h => absurd (zk_lka_mem h) List.not_mem_nil⟩
theorem THo_X11_roomsNow : ∀ pc X, M_X11_roomsNow.2.2.2.2.1 pc = some X → zk_TH RX11 cX11_roomsNow rm_X11_roomsNow pc X := fun pc X h => absurd (zk_lka_mem h) List.not_mem_nil
def cl_X11_stairsNow : List (Nat × List (Nat × Instr)) := [(18, [(0, .iconst 0), (1, .istore_n 1), (2, .iconst 0), (3, .istore_n 2), (4, .iload_n 2), (5, .aload_n 0), (6, .getfield 118), (9, .if_icmp .ge 28), (12, .iload_n 1), (13, .aload_n 0), (14, .getfield 68), (17, .iload_n 2)]),
  (39, [(18, .iaload), (19, .bipush (-2)), (21, .if_icmp .ne 7), (24, .iconst 0), (25, .goto 4), (28, .iconst 1), (29, .iadd), (30, .istore_n 1), (31, .iinc 2 1), (34, .goto (-30)), (37, .iload_n 1), (38, .ireturn)])]
theorem clo_X11_stairsNow : zk_okc cX11_stairsNow cl_X11_stairsNow = true := by decide +kernel
def rm_X11_stairsNow : Room := { frames := 0, cells := 0, slots := 0, locals := 0 }
def M_X11_stairsNow : zk_M := (zk_lkc cl_X11_stairsNow, zk_in [4], tb_X11, (some (.int), 0, 0), (zk_lka [], fun _ _ => none, zk_in [], zk_in [], zk_lka []))
theorem MO_X11_stairsNow : zk_MO RX11 cX11_stairsNow (yX11_stairsNow.name = "<init>") M_X11_stairsNow := zk_MO_of clo_X11_stairsNow rfl tbo_X11
theorem TO_X11_stairsNow : zk_TO RX11 cX11_stairsNow rm_X11_stairsNow M_X11_stairsNow := ⟨fun pc h => absurd (zk_in_mem h) List.not_mem_nil, fun pc h => absurd (zk_in_mem h) List.not_mem_nil, fun pc tag h => absurd (zk_lka_mem h) List.not_mem_nil⟩
theorem THo_X11_stairsNow : ∀ pc X, M_X11_stairsNow.2.2.2.2.1 pc = some X → zk_TH RX11 cX11_stairsNow rm_X11_stairsNow pc X := fun pc X h => absurd (zk_lka_mem h) List.not_mem_nil
def cl_X11_rooms : List (Nat × List (Nat × Instr)) := [(9, [(0, .aload_n 0), (1, .aload_n 0), (2, .invokevirtual 177), (5, .invokevirtual 180), (8, .ireturn)])]
theorem clo_X11_rooms : zk_okc cX11_rooms cl_X11_rooms = true := by decide +kernel
def rm_X11_rooms : Room := { frames := 1, cells := 0, slots := 0, locals := 22 }
def M_X11_rooms : zk_M := (zk_lkc cl_X11_rooms, zk_in [], tb_X11, (some (.int), 0, 0), (zk_lka [], fun _ _ => none, zk_in [], zk_in [], zk_lka []))
theorem MO_X11_rooms : zk_MO RX11 cX11_rooms (yX11_rooms.name = "<init>") M_X11_rooms := zk_MO_of clo_X11_rooms rfl tbo_X11
theorem TO_X11_rooms : zk_TO RX11 cX11_rooms rm_X11_rooms M_X11_rooms := ⟨fun pc h => absurd (zk_in_mem h) List.not_mem_nil, fun pc h => absurd (zk_in_mem h) List.not_mem_nil, fun pc tag h => absurd (zk_lka_mem h) List.not_mem_nil⟩
theorem THo_X11_rooms : ∀ pc X, M_X11_rooms.2.2.2.2.1 pc = some X → zk_TH RX11 cX11_rooms rm_X11_rooms pc X := fun pc X h => absurd (zk_lka_mem h) List.not_mem_nil
def cl_X11_doors : List (Nat × List (Nat × Instr)) := [(9, [(0, .aload_n 0), (1, .aload_n 0), (2, .invokevirtual 173), (5, .invokevirtual 180), (8, .ireturn)])]
theorem clo_X11_doors : zk_okc cX11_doors cl_X11_doors = true := by decide +kernel
def rm_X11_doors : Room := { frames := 1, cells := 0, slots := 0, locals := 22 }
def M_X11_doors : zk_M := (zk_lkc cl_X11_doors, zk_in [], tb_X11, (some (.int), 0, 0), (zk_lka [], fun _ _ => none, zk_in [], zk_in [], zk_lka []))
theorem MO_X11_doors : zk_MO RX11 cX11_doors (yX11_doors.name = "<init>") M_X11_doors := zk_MO_of clo_X11_doors rfl tbo_X11
theorem TO_X11_doors : zk_TO RX11 cX11_doors rm_X11_doors M_X11_doors := ⟨fun pc h => absurd (zk_in_mem h) List.not_mem_nil, fun pc h => absurd (zk_in_mem h) List.not_mem_nil, fun pc tag h => absurd (zk_lka_mem h) List.not_mem_nil⟩
theorem THo_X11_doors : ∀ pc X, M_X11_doors.2.2.2.2.1 pc = some X → zk_TH RX11 cX11_doors rm_X11_doors pc X := fun pc X h => absurd (zk_lka_mem h) List.not_mem_nil
def cl_X11_stairs : List (Nat × List (Nat × Instr)) := [(9, [(0, .aload_n 0), (1, .aload_n 0), (2, .invokevirtual 183), (5, .invokevirtual 180), (8, .ireturn)])]
theorem clo_X11_stairs : zk_okc cX11_stairs cl_X11_stairs = true := by decide +kernel
def rm_X11_stairs : Room := { frames := 1, cells := 0, slots := 0, locals := 22 }
def M_X11_stairs : zk_M := (zk_lkc cl_X11_stairs, zk_in [], tb_X11, (some (.int), 0, 0), (zk_lka [], fun _ _ => none, zk_in [], zk_in [], zk_lka []))
theorem MO_X11_stairs : zk_MO RX11 cX11_stairs (yX11_stairs.name = "<init>") M_X11_stairs := zk_MO_of clo_X11_stairs rfl tbo_X11
theorem TO_X11_stairs : zk_TO RX11 cX11_stairs rm_X11_stairs M_X11_stairs := ⟨fun pc h => absurd (zk_in_mem h) List.not_mem_nil, fun pc h => absurd (zk_in_mem h) List.not_mem_nil, fun pc tag h => absurd (zk_lka_mem h) List.not_mem_nil⟩
theorem THo_X11_stairs : ∀ pc X, M_X11_stairs.2.2.2.2.1 pc = some X → zk_TH RX11 cX11_stairs rm_X11_stairs pc X := fun pc X h => absurd (zk_lka_mem h) List.not_mem_nil
def cl_X11_roomAt : List (Nat × List (Nat × Instr)) := [(20, [(0, .aload_n 0), (1, .iconst 0), (2, .putfield 104), (5, .iload_n 1), (6, .iconst 0), (7, .iconst 2), (8, .invokestatic 111), (11, .ifCond .ne 9), (14, .aload_n 0), (15, .iconst 1), (16, .invokevirtual 130), (19, .ireturn)]),
  (41, [(20, .iconst 0), (21, .istore 4), (23, .iload 4), (25, .aload_n 0), (26, .getfield 108), (29, .if_icmp .ge 83), (32, .aload_n 0), (33, .getfield 9), (36, .iload 4), (38, .iaload), (39, .iload_n 1), (40, .if_icmp .ne 66)]),
  (63, [(43, .iload_n 2), (44, .aload_n 0), (45, .getfield 13), (48, .iload 4), (50, .iaload), (51, .if_icmp .lt 55), (54, .iload_n 2), (55, .aload_n 0), (56, .getfield 13), (59, .iload 4), (61, .iaload), (62, .aload_n 0)]),
  (85, [(63, .getfield 19), (66, .iload 4), (68, .iaload), (69, .iadd), (70, .if_icmp .ge 36), (73, .iload_n 3), (74, .aload_n 0), (75, .getfield 16), (78, .iload 4), (80, .iaload), (81, .if_icmp .lt 25), (84, .iload_n 3)]),
  (106, [(85, .aload_n 0), (86, .getfield 16), (89, .iload 4), (91, .iaload), (92, .aload_n 0), (93, .getfield 22), (96, .iload 4), (98, .iaload), (99, .iadd), (100, .if_icmp .ge 6), (103, .iload 4), (105, .ireturn)]),
  (114, [(106, .iinc 4 1), (109, .goto (-86)), (112, .iconst (-1)), (113, .ireturn)])]
theorem clo_X11_roomAt : zk_okc cX11_roomAt cl_X11_roomAt = true := by decide +kernel
def rm_X11_roomAt : Room := { frames := 1, cells := 0, slots := 0, locals := 22 }
def M_X11_roomAt : zk_M := (zk_lkc cl_X11_roomAt, zk_in [23], tb_X11, (some (.int), 0, 0), (zk_lka [], fun _ _ => none, zk_in [], zk_in [], zk_lka []))
theorem MO_X11_roomAt : zk_MO RX11 cX11_roomAt (yX11_roomAt.name = "<init>") M_X11_roomAt := zk_MO_of clo_X11_roomAt rfl tbo_X11
theorem TO_X11_roomAt : zk_TO RX11 cX11_roomAt rm_X11_roomAt M_X11_roomAt := ⟨fun pc h => absurd (zk_in_mem h) List.not_mem_nil, fun pc h => absurd (zk_in_mem h) List.not_mem_nil, fun pc tag h => absurd (zk_lka_mem h) List.not_mem_nil⟩
theorem THo_X11_roomAt : ∀ pc X, M_X11_roomAt.2.2.2.2.1 pc = some X → zk_TH RX11 cX11_roomAt rm_X11_roomAt pc X := fun pc X h => absurd (zk_lka_mem h) List.not_mem_nil
def cl_X11_areJoined : List (Nat × List (Nat × Instr)) := [(22, [(0, .aload_n 0), (1, .iconst 0), (2, .putfield 104), (5, .aload_n 0), (6, .iload_n 1), (7, .invokevirtual 137), (10, .ifCond .eq 11), (13, .aload_n 0), (14, .iload_n 2), (15, .invokevirtual 137), (18, .ifCond .ne 9), (21, .aload_n 0)]),
  (42, [(22, .iconst 1), (23, .invokevirtual 170), (26, .ireturn), (27, .iconst 0), (28, .istore_n 3), (29, .iload_n 3), (30, .aload_n 0), (31, .getfield 115), (34, .if_icmp .ge 62), (37, .aload_n 0), (38, .getfield 31), (41, .iload_n 3)]),
  (63, [(42, .iaload), (43, .bipush (-2)), (45, .if_icmp .eq 45), (48, .aload_n 0), (49, .getfield 31), (52, .iload_n 3), (53, .iaload), (54, .iload_n 1), (55, .if_icmp .ne 13), (58, .aload_n 0), (59, .getfield 34), (62, .iload_n 3)]),
  (83, [(63, .iaload), (64, .iload_n 2), (65, .if_icmp .eq 23), (68, .aload_n 0), (69, .getfield 31), (72, .iload_n 3), (73, .iaload), (74, .iload_n 2), (75, .if_icmp .ne 15), (78, .aload_n 0), (79, .getfield 34), (82, .iload_n 3)]),
  (98, [(83, .iaload), (84, .iload_n 1), (85, .if_icmp .ne 5), (88, .iconst 1), (89, .ireturn), (90, .iinc 3 1), (93, .goto (-64)), (96, .iconst 0), (97, .ireturn)])]
theorem clo_X11_areJoined : zk_okc cX11_areJoined cl_X11_areJoined = true := by decide +kernel
def rm_X11_areJoined : Room := { frames := 2, cells := 0, slots := 0, locals := 43 }
def M_X11_areJoined : zk_M := (zk_lkc cl_X11_areJoined, zk_in [29], tb_X11, (some (.boolean), 0, 0), (zk_lka [], fun _ _ => none, zk_in [], zk_in [], zk_lka []))
theorem MO_X11_areJoined : zk_MO RX11 cX11_areJoined (yX11_areJoined.name = "<init>") M_X11_areJoined := zk_MO_of clo_X11_areJoined rfl tbo_X11
theorem TO_X11_areJoined : zk_TO RX11 cX11_areJoined rm_X11_areJoined M_X11_areJoined := ⟨fun pc h => absurd (zk_in_mem h) List.not_mem_nil, fun pc h => absurd (zk_in_mem h) List.not_mem_nil, fun pc tag h => absurd (zk_lka_mem h) List.not_mem_nil⟩
theorem THo_X11_areJoined : ∀ pc X, M_X11_areJoined.2.2.2.2.1 pc = some X → zk_TH RX11 cX11_areJoined rm_X11_areJoined pc X := fun pc X h => absurd (zk_lka_mem h) List.not_mem_nil
def cl_X11_from : List (Nat × List (Nat × Instr)) := [(19, [(0, .iload_n 1), (1, .iconst 2), (2, .idiv), (3, .istore_n 2), (4, .iload_n 2), (5, .bipush 40), (7, .if_icmp .ge 73), (10, .iload_n 2), (11, .aload_n 0), (12, .getfield 115), (15, .if_icmp .ge 23), (18, .aload_n 0)]),
  (41, [(19, .getfield 31), (22, .iload_n 2), (23, .iaload), (24, .bipush (-2)), (26, .if_icmp .eq 12), (29, .aload_n 0), (30, .getfield 50), (33, .iload_n 2), (34, .baload), (35, .ifCond .eq 8), (38, .bipush (-2)), (40, .goto 39)]),
  (63, [(43, .iload_n 1), (44, .iconst 2), (45, .irem), (46, .ifCond .ne 12), (49, .aload_n 0), (50, .getfield 31), (53, .iload_n 2), (54, .iaload), (55, .goto 24), (58, .aload_n 0), (59, .getfield 34), (62, .iload_n 2)]),
  (82, [(63, .iaload), (64, .iconst (-1)), (65, .if_icmp .ne 8), (68, .bipush (-2)), (70, .goto 9), (73, .aload_n 0), (74, .getfield 34), (77, .iload_n 2), (78, .iaload), (79, .ireturn), (80, .iload_n 2), (81, .bipush 40)]),
  (102, [(83, .isub), (84, .istore_n 3), (85, .iload_n 3), (86, .aload_n 0), (87, .getfield 118), (90, .if_icmp .ge 14), (93, .aload_n 0), (94, .getfield 68), (97, .iload_n 3), (98, .iaload), (99, .bipush (-2)), (101, .if_icmp .ne 8)]),
  (125, [(104, .bipush (-2)), (106, .goto 24), (109, .iload_n 1), (110, .iconst 2), (111, .irem), (112, .ifCond .ne 12), (115, .aload_n 0), (116, .getfield 68), (119, .iload_n 3), (120, .iaload), (121, .goto 9), (124, .aload_n 0)]),
  (131, [(125, .getfield 71), (128, .iload_n 3), (129, .iaload), (130, .ireturn)])]
theorem clo_X11_from : zk_okc cX11_from cl_X11_from = true := by decide +kernel
def rm_X11_from : Room := { frames := 0, cells := 0, slots := 0, locals := 0 }
def M_X11_from : zk_M := (zk_lkc cl_X11_from, zk_in [], tb_X11, (some (.int), 0, 0), (zk_lka [], fun _ _ => none, zk_in [], zk_in [], zk_lka []))
theorem MO_X11_from : zk_MO RX11 cX11_from (yX11_from.name = "<init>") M_X11_from := zk_MO_of clo_X11_from rfl tbo_X11
theorem TO_X11_from : zk_TO RX11 cX11_from rm_X11_from M_X11_from := ⟨fun pc h => absurd (zk_in_mem h) List.not_mem_nil, fun pc h => absurd (zk_in_mem h) List.not_mem_nil, fun pc tag h => absurd (zk_lka_mem h) List.not_mem_nil⟩
theorem THo_X11_from : ∀ pc X, M_X11_from.2.2.2.2.1 pc = some X → zk_TH RX11 cX11_from rm_X11_from pc X := fun pc X h => absurd (zk_lka_mem h) List.not_mem_nil
def cl_X11_into : List (Nat × List (Nat × Instr)) := [(17, [(0, .iload_n 1), (1, .iconst 2), (2, .idiv), (3, .istore_n 2), (4, .iload_n 2), (5, .bipush 40), (7, .if_icmp .ge 25), (10, .iload_n 1), (11, .iconst 2), (12, .irem), (13, .ifCond .ne 12), (16, .aload_n 0)]),
  (35, [(17, .getfield 34), (20, .iload_n 2), (21, .iaload), (22, .goto 9), (25, .aload_n 0), (26, .getfield 31), (29, .iload_n 2), (30, .iaload), (31, .ireturn), (32, .iload_n 1), (33, .iconst 2), (34, .irem)]),
  (56, [(35, .ifCond .ne 15), (38, .aload_n 0), (39, .getfield 71), (42, .iload_n 2), (43, .bipush 40), (45, .isub), (46, .iaload), (47, .goto 12), (50, .aload_n 0), (51, .getfield 68), (54, .iload_n 2), (55, .bipush 40)]),
  (60, [(57, .isub), (58, .iaload), (59, .ireturn)])]
theorem clo_X11_into : zk_okc cX11_into cl_X11_into = true := by decide +kernel
def rm_X11_into : Room := { frames := 0, cells := 0, slots := 0, locals := 0 }
def M_X11_into : zk_M := (zk_lkc cl_X11_into, zk_in [], tb_X11, (some (.int), 0, 0), (zk_lka [], fun _ _ => none, zk_in [], zk_in [], zk_lka []))
theorem MO_X11_into : zk_MO RX11 cX11_into (yX11_into.name = "<init>") M_X11_into := zk_MO_of clo_X11_into rfl tbo_X11
theorem TO_X11_into : zk_TO RX11 cX11_into rm_X11_into M_X11_into := ⟨fun pc h => absurd (zk_in_mem h) List.not_mem_nil, fun pc h => absurd (zk_in_mem h) List.not_mem_nil, fun pc tag h => absurd (zk_lka_mem h) List.not_mem_nil⟩
theorem THo_X11_into : ∀ pc X, M_X11_into.2.2.2.2.1 pc = some X → zk_TH RX11 cX11_into rm_X11_into pc X := fun pc X h => absurd (zk_lka_mem h) List.not_mem_nil
def cl_X11_pointX : List (Nat × List (Nat × Instr)) := [(17, [(0, .iload_n 1), (1, .iconst 2), (2, .idiv), (3, .istore_n 2), (4, .iload_n 2), (5, .bipush 40), (7, .if_icmp .ge 34), (10, .iconst 2), (11, .aload_n 0), (12, .getfield 37), (15, .iload_n 2), (16, .iaload)]),
  (37, [(17, .imul), (18, .aload_n 0), (19, .getfield 46), (22, .iload_n 2), (23, .baload), (24, .ifCond .eq 7), (27, .iconst 0), (28, .goto 9), (31, .aload_n 0), (32, .getfield 43), (35, .iload_n 2), (36, .iaload)]),
  (53, [(37, .iadd), (38, .goto 14), (41, .iconst 2), (42, .aload_n 0), (43, .getfield 74), (46, .iload_n 2), (47, .bipush 40), (49, .isub), (50, .iaload), (51, .imul), (52, .ireturn)])]
theorem clo_X11_pointX : zk_okc cX11_pointX cl_X11_pointX = true := by decide +kernel
def rm_X11_pointX : Room := { frames := 0, cells := 0, slots := 0, locals := 0 }
def M_X11_pointX : zk_M := (zk_lkc cl_X11_pointX, zk_in [], tb_X11, (some (.int), 0, 0), (zk_lka [], fun _ _ => none, zk_in [], zk_in [], zk_lka []))
theorem MO_X11_pointX : zk_MO RX11 cX11_pointX (yX11_pointX.name = "<init>") M_X11_pointX := zk_MO_of clo_X11_pointX rfl tbo_X11
theorem TO_X11_pointX : zk_TO RX11 cX11_pointX rm_X11_pointX M_X11_pointX := ⟨fun pc h => absurd (zk_in_mem h) List.not_mem_nil, fun pc h => absurd (zk_in_mem h) List.not_mem_nil, fun pc tag h => absurd (zk_lka_mem h) List.not_mem_nil⟩
theorem THo_X11_pointX : ∀ pc X, M_X11_pointX.2.2.2.2.1 pc = some X → zk_TH RX11 cX11_pointX rm_X11_pointX pc X := fun pc X h => absurd (zk_lka_mem h) List.not_mem_nil
def cl_X11_pointY : List (Nat × List (Nat × Instr)) := [(17, [(0, .iload_n 1), (1, .iconst 2), (2, .idiv), (3, .istore_n 2), (4, .iload_n 2), (5, .bipush 40), (7, .if_icmp .ge 34), (10, .iconst 2), (11, .aload_n 0), (12, .getfield 40), (15, .iload_n 2), (16, .iaload)]),
  (37, [(17, .imul), (18, .aload_n 0), (19, .getfield 46), (22, .iload_n 2), (23, .baload), (24, .ifCond .eq 12), (27, .aload_n 0), (28, .getfield 43), (31, .iload_n 2), (32, .iaload), (33, .goto 4), (36, .iconst 0)]),
  (53, [(37, .iadd), (38, .goto 14), (41, .iconst 2), (42, .aload_n 0), (43, .getfield 77), (46, .iload_n 2), (47, .bipush 40), (49, .isub), (50, .iaload), (51, .imul), (52, .ireturn)])]
theorem clo_X11_pointY : zk_okc cX11_pointY cl_X11_pointY = true := by decide +kernel
def rm_X11_pointY : Room := { frames := 0, cells := 0, slots := 0, locals := 0 }
def M_X11_pointY : zk_M := (zk_lkc cl_X11_pointY, zk_in [], tb_X11, (some (.int), 0, 0), (zk_lka [], fun _ _ => none, zk_in [], zk_in [], zk_lka []))
theorem MO_X11_pointY : zk_MO RX11 cX11_pointY (yX11_pointY.name = "<init>") M_X11_pointY := zk_MO_of clo_X11_pointY rfl tbo_X11
theorem TO_X11_pointY : zk_TO RX11 cX11_pointY rm_X11_pointY M_X11_pointY := ⟨fun pc h => absurd (zk_in_mem h) List.not_mem_nil, fun pc h => absurd (zk_in_mem h) List.not_mem_nil, fun pc tag h => absurd (zk_lka_mem h) List.not_mem_nil⟩
theorem THo_X11_pointY : ∀ pc X, M_X11_pointY.2.2.2.2.1 pc = some X → zk_TH RX11 cX11_pointY rm_X11_pointY pc X := fun pc X h => absurd (zk_lka_mem h) List.not_mem_nil
def cl_X11_collect : List (Nat × List (Nat × Instr)) := [(18, [(0, .aload_n 0), (1, .iconst 0), (2, .putfield 186), (5, .iconst 0), (6, .istore_n 1), (7, .iload_n 1), (8, .iconst 2), (9, .aload_n 0), (10, .getfield 115), (13, .imul), (14, .if_icmp .ge 36), (17, .aload_n 0)]),
  (39, [(18, .iload_n 1), (19, .invokevirtual 189), (22, .bipush (-2)), (24, .if_icmp .eq 20), (27, .aload_n 0), (28, .getfield 98), (31, .aload_n 0), (32, .dup), (33, .getfield 186), (36, .dup_x1), (37, .iconst 1), (38, .iadd)]),
  (59, [(39, .putfield 186), (42, .iload_n 1), (43, .iastore), (44, .iinc 1 1), (47, .goto (-40)), (50, .bipush 80), (52, .istore_n 1), (53, .iload_n 1), (54, .iconst 2), (55, .bipush 40), (57, .aload_n 0), (58, .getfield 118)]),
  (82, [(61, .iadd), (62, .imul), (63, .if_icmp .ge 36), (66, .aload_n 0), (67, .iload_n 1), (68, .invokevirtual 189), (71, .bipush (-2)), (73, .if_icmp .eq 20), (76, .aload_n 0), (77, .getfield 98), (80, .aload_n 0), (81, .dup)]),
  (100, [(82, .getfield 186), (85, .dup_x1), (86, .iconst 1), (87, .iadd), (88, .putfield 186), (91, .iload_n 1), (92, .iastore), (93, .iinc 1 1), (96, .goto (-43)), (99, .return_)])]
theorem clo_X11_collect : zk_okc cX11_collect cl_X11_collect = true := by decide +kernel
def rm_X11_collect : Room := { frames := 1, cells := 0, slots := 0, locals := 23 }
def M_X11_collect : zk_M := (zk_lkc cl_X11_collect, zk_in [7, 53], tb_X11, (none, 0, 0), (zk_lka [], fun _ _ => none, zk_in [], zk_in [], zk_lka []))
theorem MO_X11_collect : zk_MO RX11 cX11_collect (yX11_collect.name = "<init>") M_X11_collect := zk_MO_of clo_X11_collect rfl tbo_X11
theorem TO_X11_collect : zk_TO RX11 cX11_collect rm_X11_collect M_X11_collect := ⟨fun pc h => absurd (zk_in_mem h) List.not_mem_nil, fun pc h => absurd (zk_in_mem h) List.not_mem_nil, fun pc tag h => absurd (zk_lka_mem h) List.not_mem_nil⟩
theorem THo_X11_collect : ∀ pc X, M_X11_collect.2.2.2.2.1 pc = some X → zk_TH RX11 cX11_collect rm_X11_collect pc X := fun pc X h => absurd (zk_lka_mem h) List.not_mem_nil
def cl_X11_distance : List (Nat × List (Nat × Instr)) := [(18, [(0, .aload_n 0), (1, .iload_n 1), (2, .invokevirtual 192), (5, .iload_n 2), (6, .isub), (7, .invokestatic 195), (10, .aload_n 0), (11, .iload_n 1), (12, .invokevirtual 198), (15, .iload_n 3), (16, .isub), (17, .invokestatic 195)]),
  (22, [(20, .iadd), (21, .ireturn)])]
theorem clo_X11_distance : zk_okc cX11_distance cl_X11_distance = true := by decide +kernel
def rm_X11_distance : Room := { frames := 1, cells := 0, slots := 0, locals := 23 }
def M_X11_distance : zk_M := (zk_lkc cl_X11_distance, zk_in [], tb_X11, (some (.int), 0, 0), (zk_lka [], fun _ _ => none, zk_in [], zk_in [], zk_lka [(7, 2), (17, 2)]))
theorem MO_X11_distance : zk_MO RX11 cX11_distance (yX11_distance.name = "<init>") M_X11_distance := zk_MO_of clo_X11_distance rfl tbo_X11
theorem TO_X11_distance : zk_TO RX11 cX11_distance rm_X11_distance M_X11_distance := ⟨fun pc h => absurd (zk_in_mem h) List.not_mem_nil, fun pc h => absurd (zk_in_mem h) List.not_mem_nil, fun pc tag h => by
    have h2 := zk_lka_mem h
    simp only [List.mem_cons, List.not_mem_nil, or_false, Prod.mk.injEq] at h2
    rcases h2 with ⟨rfl, rfl⟩ | ⟨rfl, rfl⟩
    · exact ⟨195, by decide +kernel, zk_wi 1264 (by decide +kernel) rfl, by decide, by decide⟩
    · exact ⟨195, by decide +kernel, zk_wi 1264 (by decide +kernel) rfl, by decide, by decide⟩⟩
theorem THo_X11_distance : ∀ pc X, M_X11_distance.2.2.2.2.1 pc = some X → zk_TH RX11 cX11_distance rm_X11_distance pc X := fun pc X h => absurd (zk_lka_mem h) List.not_mem_nil
def cl_X11_isExit : List (Nat × List (Nat × Instr)) := [(15, [(0, .aload_n 0), (1, .iload_n 1), (2, .invokevirtual 189), (5, .iload_n 2), (6, .if_icmp .ne 7), (9, .iconst 1), (10, .goto 4), (13, .iconst 0), (14, .ireturn)])]
theorem clo_X11_isExit : zk_okc cX11_isExit cl_X11_isExit = true := by decide +kernel
def rm_X11_isExit : Room := { frames := 1, cells := 0, slots := 0, locals := 23 }
def M_X11_isExit : zk_M := (zk_lkc cl_X11_isExit, zk_in [], tb_X11, (some (.boolean), 0, 0), (zk_lka [], fun _ _ => none, zk_in [], zk_in [], zk_lka []))
theorem MO_X11_isExit : zk_MO RX11 cX11_isExit (yX11_isExit.name = "<init>") M_X11_isExit := zk_MO_of clo_X11_isExit rfl tbo_X11
theorem TO_X11_isExit : zk_TO RX11 cX11_isExit rm_X11_isExit M_X11_isExit := ⟨fun pc h => absurd (zk_in_mem h) List.not_mem_nil, fun pc h => absurd (zk_in_mem h) List.not_mem_nil, fun pc tag h => absurd (zk_lka_mem h) List.not_mem_nil⟩
theorem THo_X11_isExit : ∀ pc X, M_X11_isExit.2.2.2.2.1 pc = some X → zk_TH RX11 cX11_isExit rm_X11_isExit pc X := fun pc X h => absurd (zk_lka_mem h) List.not_mem_nil
def cl_X11_least : List (Nat × List (Nat × Instr)) := [(23, [(0, .ldc 201), (2, .istore 5), (4, .iconst 0), (5, .istore 6), (7, .iload 6), (9, .aload_n 0), (10, .getfield 186), (13, .if_icmp .ge 88), (16, .aload_n 0), (17, .getfield 98), (20, .iload 6), (22, .iaload)]),
  (42, [(23, .iconst 2), (24, .idiv), (25, .iload_n 2), (26, .if_icmp .eq 69), (29, .aload_n 0), (30, .aload_n 0), (31, .getfield 98), (34, .iload 6), (36, .iaload), (37, .iload_n 1), (38, .invokevirtual 202), (41, .ifCond .eq 54)]),
  (65, [(44, .aload_n 0), (45, .getfield 83), (48, .aload_n 0), (49, .getfield 98), (52, .iload 6), (54, .iaload), (55, .iaload), (56, .ldc 201), (58, .if_icmp .ge 37), (61, .iload 5), (63, .aload_n 0), (64, .aload_n 0)]),
  (88, [(65, .getfield 98), (68, .iload 6), (70, .iaload), (71, .iload_n 3), (72, .iload 4), (74, .invokevirtual 206), (77, .aload_n 0), (78, .getfield 83), (81, .aload_n 0), (82, .getfield 98), (85, .iload 6), (87, .iaload)]),
  (104, [(88, .iaload), (89, .iadd), (90, .invokestatic 121), (93, .istore 5), (95, .iinc 6 1), (98, .goto (-91)), (101, .iload 5), (103, .ireturn)])]
theorem clo_X11_least : zk_okc cX11_least cl_X11_least = true := by decide +kernel
def rm_X11_least : Room := { frames := 2, cells := 0, slots := 0, locals := 46 }
def M_X11_least : zk_M := (zk_lkc cl_X11_least, zk_in [7], tb_X11, (some (.int), 0, 0), (zk_lka [], fun _ _ => none, zk_in [], zk_in [], zk_lka [(90, 0)]))
theorem MO_X11_least : zk_MO RX11 cX11_least (yX11_least.name = "<init>") M_X11_least := zk_MO_of clo_X11_least rfl tbo_X11
theorem TO_X11_least : zk_TO RX11 cX11_least rm_X11_least M_X11_least := ⟨fun pc h => absurd (zk_in_mem h) List.not_mem_nil, fun pc h => absurd (zk_in_mem h) List.not_mem_nil, fun pc tag h => by
    have h2 := zk_lka_mem h
    simp only [List.mem_cons, List.not_mem_nil, or_false, Prod.mk.injEq] at h2
    rcases h2 with ⟨rfl, rfl⟩
    exact ⟨121, by decide +kernel, zk_wi 1116 (by decide +kernel) rfl, by decide, by decide⟩⟩
theorem THo_X11_least : ∀ pc X, M_X11_least.2.2.2.2.1 pc = some X → zk_TH RX11 cX11_least rm_X11_least pc X := fun pc X h => absurd (zk_lka_mem h) List.not_mem_nil
def cl_X11_solve : List (Nat × List (Nat × Instr)) := [(20, [(0, .aload_n 0), (1, .invokevirtual 210), (4, .iconst 0), (5, .istore_n 1), (6, .iload_n 1), (7, .aload_n 0), (8, .getfield 186), (11, .if_icmp .ge 40), (14, .aload_n 0), (15, .getfield 83), (18, .aload_n 0), (19, .getfield 98)]),
  (40, [(22, .iload_n 1), (23, .iaload), (24, .aload_n 0), (25, .aload_n 0), (26, .getfield 98), (29, .iload_n 1), (30, .iaload), (31, .invokevirtual 213), (34, .iconst (-1)), (35, .if_icmp .ne 7), (38, .iconst 0), (39, .goto 5)]),
  (61, [(42, .ldc 201), (44, .iastore), (45, .iinc 1 1), (48, .goto (-42)), (51, .iconst 1), (52, .istore_n 1), (53, .iload_n 1), (54, .ifCond .eq 123), (57, .iconst 0), (58, .istore_n 1), (59, .iconst 0), (60, .istore_n 2)]),
  (79, [(61, .iload_n 2), (62, .aload_n 0), (63, .getfield 186), (66, .if_icmp .ge 108), (69, .aload_n 0), (70, .getfield 98), (73, .iload_n 2), (74, .iaload), (75, .istore_n 3), (76, .aload_n 0), (77, .iload_n 3), (78, .invokevirtual 213)]),
  (100, [(81, .iconst (-1)), (82, .if_icmp .ne 6), (85, .goto 83), (88, .ldc 201), (90, .aload_n 0), (91, .aload_n 0), (92, .iload_n 3), (93, .invokevirtual 213), (96, .iload_n 3), (97, .iconst 2), (98, .idiv), (99, .aload_n 0)]),
  (121, [(100, .iload_n 3), (101, .invokevirtual 192), (104, .aload_n 0), (105, .iload_n 3), (106, .invokevirtual 198), (109, .invokevirtual 216), (112, .iload_n 3), (113, .iconst 2), (114, .idiv), (115, .bipush 40), (117, .if_icmp .ge 7), (120, .iconst 0)]),
  (142, [(121, .goto 5), (124, .bipush 20), (126, .iadd), (127, .invokestatic 121), (130, .istore 4), (132, .iload_n 1), (133, .iload 4), (135, .aload_n 0), (136, .getfield 83), (139, .iload_n 3), (140, .iaload), (141, .if_icmp .ge 7)]),
  (162, [(144, .iconst 1), (145, .goto 4), (148, .iconst 0), (149, .ior), (150, .istore_n 1), (151, .aload_n 0), (152, .getfield 83), (155, .iload_n 3), (156, .aload_n 0), (157, .getfield 83), (160, .iload_n 3), (161, .iaload)]),
  (185, [(162, .iload 4), (164, .invokestatic 121), (167, .iastore), (168, .iinc 2 1), (171, .goto (-110)), (174, .goto (-121)), (177, .iconst 0), (178, .istore_n 2), (179, .iload_n 2), (180, .aload_n 0), (181, .getfield 108), (184, .if_icmp .ge 14)]),
  (209, [(187, .aload_n 0), (188, .iload_n 2), (189, .invokevirtual 220), (192, .iinc 2 1), (195, .goto (-16)), (198, .iconst 0), (199, .istore_n 2), (200, .iload_n 2), (201, .aload_n 0), (202, .getfield 108), (205, .if_icmp .ge 20), (208, .aload_n 0)]),
  (226, [(209, .getfield 92), (212, .iload_n 2), (213, .aload_n 0), (214, .iload_n 2), (215, .invokevirtual 224), (218, .iastore), (219, .iinc 2 1), (222, .goto (-22)), (225, .return_)])]
theorem clo_X11_solve : zk_okc cX11_solve cl_X11_solve = true := by decide +kernel
def rm_X11_solve : Room := { frames := 3, cells := 0, slots := 0, locals := 72 }
def M_X11_solve : zk_M := (zk_lkc cl_X11_solve, zk_in [6, 53, 61, 179, 200], tb_X11, (none, 0, 0), (zk_lka [], fun _ _ => none, zk_in [], zk_in [], zk_lka [(127, 0), (164, 0)]))
theorem MO_X11_solve : zk_MO RX11 cX11_solve (yX11_solve.name = "<init>") M_X11_solve := zk_MO_of clo_X11_solve rfl tbo_X11
theorem TO_X11_solve : zk_TO RX11 cX11_solve rm_X11_solve M_X11_solve := ⟨fun pc h => absurd (zk_in_mem h) List.not_mem_nil, fun pc h => absurd (zk_in_mem h) List.not_mem_nil, fun pc tag h => by
    have h2 := zk_lka_mem h
    simp only [List.mem_cons, List.not_mem_nil, or_false, Prod.mk.injEq] at h2
    rcases h2 with ⟨rfl, rfl⟩ | ⟨rfl, rfl⟩
    · exact ⟨121, by decide +kernel, zk_wi 1116 (by decide +kernel) rfl, by decide, by decide⟩
    · exact ⟨121, by decide +kernel, zk_wi 1116 (by decide +kernel) rfl, by decide, by decide⟩⟩
theorem THo_X11_solve : ∀ pc X, M_X11_solve.2.2.2.2.1 pc = some X → zk_TH RX11 cX11_solve rm_X11_solve pc X := fun pc X h => absurd (zk_lka_mem h) List.not_mem_nil
def cl_X11_leave : List (Nat × List (Nat × Instr)) := [(17, [(0, .aload_n 0), (1, .getfield 86), (4, .iload_n 1), (5, .iconst (-1)), (6, .iastore), (7, .aload_n 0), (8, .getfield 89), (11, .iload_n 1), (12, .ldc 201), (14, .iastore), (15, .iconst 0), (16, .istore_n 2)]),
  (38, [(17, .iload_n 2), (18, .aload_n 0), (19, .getfield 186), (22, .if_icmp .ge 123), (25, .aload_n 0), (26, .getfield 9), (29, .iload_n 1), (30, .iaload), (31, .bipush (-2)), (33, .if_icmp .eq 112), (36, .aload_n 0), (37, .getfield 98)]),
  (58, [(40, .iload_n 2), (41, .iaload), (42, .istore_n 3), (43, .aload_n 0), (44, .iload_n 3), (45, .iload_n 1), (46, .invokevirtual 202), (49, .ifCond .eq 90), (52, .aload_n 0), (53, .getfield 83), (56, .iload_n 3), (57, .iaload)]),
  (77, [(58, .ldc 201), (60, .if_icmp .ne 6), (63, .goto 76), (66, .aload_n 0), (67, .iload_n 3), (68, .iconst 2), (69, .aload_n 0), (70, .getfield 13), (73, .iload_n 1), (74, .iaload), (75, .imul), (76, .aload_n 0)]),
  (93, [(77, .getfield 19), (80, .iload_n 1), (81, .iaload), (82, .iadd), (83, .iconst 2), (84, .aload_n 0), (85, .getfield 16), (88, .iload_n 1), (89, .iaload), (90, .imul), (91, .aload_n 0), (92, .getfield 22)]),
  (113, [(95, .iload_n 1), (96, .iaload), (97, .iadd), (98, .invokevirtual 206), (101, .aload_n 0), (102, .getfield 83), (105, .iload_n 3), (106, .iaload), (107, .iadd), (108, .istore 4), (110, .iload 4), (112, .aload_n 0)]),
  (134, [(113, .getfield 89), (116, .iload_n 1), (117, .iaload), (118, .if_icmp .lt 6), (121, .goto 18), (124, .aload_n 0), (125, .getfield 89), (128, .iload_n 1), (129, .iload 4), (131, .iastore), (132, .aload_n 0), (133, .getfield 86)]),
  (146, [(136, .iload_n 1), (137, .iload_n 3), (138, .iastore), (139, .iinc 2 1), (142, .goto (-125)), (145, .return_)])]
theorem clo_X11_leave : zk_okc cX11_leave cl_X11_leave = true := by decide +kernel
def rm_X11_leave : Room := { frames := 2, cells := 0, slots := 0, locals := 46 }
def M_X11_leave : zk_M := (zk_lkc cl_X11_leave, zk_in [17], tb_X11, (none, 0, 0), (zk_lka [], fun _ _ => none, zk_in [], zk_in [], zk_lka []))
theorem MO_X11_leave : zk_MO RX11 cX11_leave (yX11_leave.name = "<init>") M_X11_leave := zk_MO_of clo_X11_leave rfl tbo_X11
theorem TO_X11_leave : zk_TO RX11 cX11_leave rm_X11_leave M_X11_leave := ⟨fun pc h => absurd (zk_in_mem h) List.not_mem_nil, fun pc h => absurd (zk_in_mem h) List.not_mem_nil, fun pc tag h => absurd (zk_lka_mem h) List.not_mem_nil⟩
theorem THo_X11_leave : ∀ pc X, M_X11_leave.2.2.2.2.1 pc = some X → zk_TH RX11 cX11_leave rm_X11_leave pc X := fun pc X h => absurd (zk_lka_mem h) List.not_mem_nil
def cl_X11_depthOf : List (Nat × List (Nat × Instr)) := [(17, [(0, .iload_n 1), (1, .istore_n 2), (2, .iconst 0), (3, .istore_n 3), (4, .iload_n 3), (5, .bipush 20), (7, .if_icmp .gt 39), (10, .iload_n 2), (11, .iconst (-1)), (12, .if_icmp .ne 5), (15, .iload_n 3), (16, .ireturn)]),
  (35, [(17, .aload_n 0), (18, .getfield 86), (21, .iload_n 2), (22, .iaload), (23, .iconst (-1)), (24, .if_icmp .ne 5), (27, .iconst (-1)), (28, .ireturn), (29, .aload_n 0), (30, .aload_n 0), (31, .getfield 86), (34, .iload_n 2)]),
  (48, [(35, .iaload), (36, .invokevirtual 213), (39, .istore_n 2), (40, .iinc 3 1), (43, .goto (-39)), (46, .iconst (-1)), (47, .ireturn)])]
theorem clo_X11_depthOf : zk_okc cX11_depthOf cl_X11_depthOf = true := by decide +kernel
def rm_X11_depthOf : Room := { frames := 1, cells := 0, slots := 0, locals := 22 }
def M_X11_depthOf : zk_M := (zk_lkc cl_X11_depthOf, zk_in [4], tb_X11, (some (.int), 0, 0), (zk_lka [], fun _ _ => none, zk_in [], zk_in [], zk_lka []))
theorem MO_X11_depthOf : zk_MO RX11 cX11_depthOf (yX11_depthOf.name = "<init>") M_X11_depthOf := zk_MO_of clo_X11_depthOf rfl tbo_X11
theorem TO_X11_depthOf : zk_TO RX11 cX11_depthOf rm_X11_depthOf M_X11_depthOf := ⟨fun pc h => absurd (zk_in_mem h) List.not_mem_nil, fun pc h => absurd (zk_in_mem h) List.not_mem_nil, fun pc tag h => absurd (zk_lka_mem h) List.not_mem_nil⟩
theorem THo_X11_depthOf : ∀ pc X, M_X11_depthOf.2.2.2.2.1 pc = some X → zk_TH RX11 cX11_depthOf rm_X11_depthOf pc X := fun pc X h => absurd (zk_lka_mem h) List.not_mem_nil
def cl_X11_isLostNow : List (Nat × List (Nat × Instr)) := [(16, [(0, .aload_n 0), (1, .getfield 86), (4, .iload_n 1), (5, .iaload), (6, .iconst (-1)), (7, .if_icmp .ne 7), (10, .iconst 1), (11, .goto 4), (14, .iconst 0), (15, .ireturn)])]
theorem clo_X11_isLostNow : zk_okc cX11_isLostNow cl_X11_isLostNow = true := by decide +kernel
def rm_X11_isLostNow : Room := { frames := 0, cells := 0, slots := 0, locals := 0 }
def M_X11_isLostNow : zk_M := (zk_lkc cl_X11_isLostNow, zk_in [], tb_X11, (some (.boolean), 0, 0), (zk_lka [], fun _ _ => none, zk_in [], zk_in [], zk_lka []))
theorem MO_X11_isLostNow : zk_MO RX11 cX11_isLostNow (yX11_isLostNow.name = "<init>") M_X11_isLostNow := zk_MO_of clo_X11_isLostNow rfl tbo_X11
theorem TO_X11_isLostNow : zk_TO RX11 cX11_isLostNow rm_X11_isLostNow M_X11_isLostNow := ⟨fun pc h => absurd (zk_in_mem h) List.not_mem_nil, fun pc h => absurd (zk_in_mem h) List.not_mem_nil, fun pc tag h => absurd (zk_lka_mem h) List.not_mem_nil⟩
theorem THo_X11_isLostNow : ∀ pc X, M_X11_isLostNow.2.2.2.2.1 pc = some X → zk_TH RX11 cX11_isLostNow rm_X11_isLostNow pc X := fun pc X h => absurd (zk_lka_mem h) List.not_mem_nil
def cl_X11_isLost : List (Nat × List (Nat × Instr)) := [(20, [(0, .aload_n 0), (1, .iconst 0), (2, .putfield 104), (5, .aload_n 0), (6, .iload_n 1), (7, .invokevirtual 137), (10, .ifCond .ne 9), (13, .aload_n 0), (14, .iconst 1), (15, .invokevirtual 170), (18, .ireturn), (19, .aload_n 0)]),
  (29, [(20, .invokevirtual 227), (23, .aload_n 0), (24, .iload_n 1), (25, .invokevirtual 230), (28, .ireturn)])]
theorem clo_X11_isLost : zk_okc cX11_isLost cl_X11_isLost = true := by decide +kernel
def rm_X11_isLost : Room := { frames := 4, cells := 0, slots := 0, locals := 96 }
def M_X11_isLost : zk_M := (zk_lkc cl_X11_isLost, zk_in [], tb_X11, (some (.boolean), 0, 0), (zk_lka [], fun _ _ => none, zk_in [], zk_in [], zk_lka []))
theorem MO_X11_isLost : zk_MO RX11 cX11_isLost (yX11_isLost.name = "<init>") M_X11_isLost := zk_MO_of clo_X11_isLost rfl tbo_X11
theorem TO_X11_isLost : zk_TO RX11 cX11_isLost rm_X11_isLost M_X11_isLost := ⟨fun pc h => absurd (zk_in_mem h) List.not_mem_nil, fun pc h => absurd (zk_in_mem h) List.not_mem_nil, fun pc tag h => absurd (zk_lka_mem h) List.not_mem_nil⟩
theorem THo_X11_isLost : ∀ pc X, M_X11_isLost.2.2.2.2.1 pc = some X → zk_TH RX11 cX11_isLost rm_X11_isLost pc X := fun pc X h => absurd (zk_lka_mem h) List.not_mem_nil
def cl_X11_farNow : List (Nat × List (Nat × Instr)) := [(14, [(0, .iconst 0), (1, .istore_n 2), (2, .iconst 0), (3, .istore_n 3), (4, .iload_n 3), (5, .iconst 4), (6, .if_icmp .ge 58), (9, .iload_n 2), (10, .aload_n 0), (11, .iload_n 1), (12, .iconst (-1)), (13, .iconst 2)]),
  (30, [(14, .aload_n 0), (15, .getfield 13), (18, .iload_n 1), (19, .iaload), (20, .iload_n 3), (21, .iconst 2), (22, .irem), (23, .aload_n 0), (24, .getfield 19), (27, .iload_n 1), (28, .iaload), (29, .imul)]),
  (44, [(30, .iadd), (31, .imul), (32, .iconst 2), (33, .aload_n 0), (34, .getfield 16), (37, .iload_n 1), (38, .iaload), (39, .iload_n 3), (40, .iconst 2), (41, .idiv), (42, .aload_n 0), (43, .getfield 22)]),
  (66, [(46, .iload_n 1), (47, .iaload), (48, .imul), (49, .iadd), (50, .imul), (51, .invokevirtual 216), (54, .invokestatic 127), (57, .istore_n 2), (58, .iinc 3 1), (61, .goto (-57)), (64, .aload_n 0), (65, .iload_n 1)]),
  (78, [(66, .invokevirtual 230), (69, .ifCond .eq 7), (72, .iconst (-1)), (73, .goto 4), (76, .iload_n 2), (77, .ireturn)])]
theorem clo_X11_farNow : zk_okc cX11_farNow cl_X11_farNow = true := by decide +kernel
def rm_X11_farNow : Room := { frames := 3, cells := 0, slots := 0, locals := 72 }
def M_X11_farNow : zk_M := (zk_lkc cl_X11_farNow, zk_in [4], tb_X11, (some (.int), 0, 0), (zk_lka [], fun _ _ => none, zk_in [], zk_in [], zk_lka [(54, 1)]))
theorem MO_X11_farNow : zk_MO RX11 cX11_farNow (yX11_farNow.name = "<init>") M_X11_farNow := zk_MO_of clo_X11_farNow rfl tbo_X11
theorem TO_X11_farNow : zk_TO RX11 cX11_farNow rm_X11_farNow M_X11_farNow := ⟨fun pc h => absurd (zk_in_mem h) List.not_mem_nil, fun pc h => absurd (zk_in_mem h) List.not_mem_nil, fun pc tag h => by
    have h2 := zk_lka_mem h
    simp only [List.mem_cons, List.not_mem_nil, or_false, Prod.mk.injEq] at h2
    rcases h2 with ⟨rfl, rfl⟩
    exact ⟨127, by decide +kernel, zk_wi 1117 (by decide +kernel) rfl, by decide, by decide⟩⟩
theorem THo_X11_farNow : ∀ pc X, M_X11_farNow.2.2.2.2.1 pc = some X → zk_TH RX11 cX11_farNow rm_X11_farNow pc X := fun pc X h => absurd (zk_lka_mem h) List.not_mem_nil
def cl_X11_leavingNow : List (Nat × List (Nat × Instr)) := [(18, [(0, .aload_n 0), (1, .iload_n 1), (2, .invokevirtual 230), (5, .ifCond .eq 5), (8, .iconst (-1)), (9, .ireturn), (10, .aload_n 0), (11, .getfield 86), (14, .iload_n 1), (15, .iaload), (16, .iconst 2), (17, .idiv)]),
  (38, [(18, .bipush 40), (20, .if_icmp .ge 14), (23, .aload_n 0), (24, .getfield 86), (27, .iload_n 1), (28, .iaload), (29, .iconst 2), (30, .idiv), (31, .goto 17), (34, .bipush 100), (36, .aload_n 0), (37, .getfield 86)]),
  (49, [(40, .iload_n 1), (41, .iaload), (42, .iconst 2), (43, .idiv), (44, .iadd), (45, .bipush 40), (47, .isub), (48, .ireturn)])]
theorem clo_X11_leavingNow : zk_okc cX11_leavingNow cl_X11_leavingNow = true := by decide +kernel
def rm_X11_leavingNow : Room := { frames := 1, cells := 0, slots := 0, locals := 21 }
def M_X11_leavingNow : zk_M := (zk_lkc cl_X11_leavingNow, zk_in [], tb_X11, (some (.int), 0, 0), (zk_lka [], fun _ _ => none, zk_in [], zk_in [], zk_lka []))
theorem MO_X11_leavingNow : zk_MO RX11 cX11_leavingNow (yX11_leavingNow.name = "<init>") M_X11_leavingNow := zk_MO_of clo_X11_leavingNow rfl tbo_X11
theorem TO_X11_leavingNow : zk_TO RX11 cX11_leavingNow rm_X11_leavingNow M_X11_leavingNow := ⟨fun pc h => absurd (zk_in_mem h) List.not_mem_nil, fun pc h => absurd (zk_in_mem h) List.not_mem_nil, fun pc tag h => absurd (zk_lka_mem h) List.not_mem_nil⟩
theorem THo_X11_leavingNow : ∀ pc X, M_X11_leavingNow.2.2.2.2.1 pc = some X → zk_TH RX11 cX11_leavingNow rm_X11_leavingNow pc X := fun pc X h => absurd (zk_lka_mem h) List.not_mem_nil
def cl_X11_middleNow : List (Nat × List (Nat × Instr)) := [(19, [(0, .aload_n 0), (1, .iload_n 1), (2, .invokevirtual 230), (5, .ifCond .eq 7), (8, .iconst (-1)), (9, .goto 9), (12, .aload_n 0), (13, .getfield 89), (16, .iload_n 1), (17, .iaload), (18, .ireturn)])]
theorem clo_X11_middleNow : zk_okc cX11_middleNow cl_X11_middleNow = true := by decide +kernel
def rm_X11_middleNow : Room := { frames := 1, cells := 0, slots := 0, locals := 21 }
def M_X11_middleNow : zk_M := (zk_lkc cl_X11_middleNow, zk_in [], tb_X11, (some (.int), 0, 0), (zk_lka [], fun _ _ => none, zk_in [], zk_in [], zk_lka []))
theorem MO_X11_middleNow : zk_MO RX11 cX11_middleNow (yX11_middleNow.name = "<init>") M_X11_middleNow := zk_MO_of clo_X11_middleNow rfl tbo_X11
theorem TO_X11_middleNow : zk_TO RX11 cX11_middleNow rm_X11_middleNow M_X11_middleNow := ⟨fun pc h => absurd (zk_in_mem h) List.not_mem_nil, fun pc h => absurd (zk_in_mem h) List.not_mem_nil, fun pc tag h => absurd (zk_lka_mem h) List.not_mem_nil⟩
theorem THo_X11_middleNow : ∀ pc X, M_X11_middleNow.2.2.2.2.1 pc = some X → zk_TH RX11 cX11_middleNow rm_X11_middleNow pc X := fun pc X h => absurd (zk_lka_mem h) List.not_mem_nil
def cl_X11_isSolved : List (Nat × List (Nat × Instr)) := [(22, [(0, .aload_n 0), (1, .aload_n 0), (2, .iload_n 1), (3, .invokevirtual 137), (6, .ifCond .eq 7), (9, .iconst 0), (10, .goto 4), (13, .iconst 1), (14, .putfield 104), (17, .aload_n 0), (18, .getfield 104), (21, .ifCond .ne 7)]),
  (41, [(24, .aload_n 0), (25, .invokevirtual 227), (28, .aload_n 0), (29, .getfield 104), (32, .ifCond .ne 7), (35, .iconst 1), (36, .goto 4), (39, .iconst 0), (40, .ireturn)])]
theorem clo_X11_isSolved : zk_okc cX11_isSolved cl_X11_isSolved = true := by decide +kernel
def rm_X11_isSolved : Room := { frames := 4, cells := 0, slots := 0, locals := 96 }
def M_X11_isSolved : zk_M := (zk_lkc cl_X11_isSolved, zk_in [], tb_X11, (some (.boolean), 0, 0), (zk_lka [], fun _ _ => none, zk_in [], zk_in [], zk_lka []))
theorem MO_X11_isSolved : zk_MO RX11 cX11_isSolved (yX11_isSolved.name = "<init>") M_X11_isSolved := zk_MO_of clo_X11_isSolved rfl tbo_X11
theorem TO_X11_isSolved : zk_TO RX11 cX11_isSolved rm_X11_isSolved M_X11_isSolved := ⟨fun pc h => absurd (zk_in_mem h) List.not_mem_nil, fun pc h => absurd (zk_in_mem h) List.not_mem_nil, fun pc tag h => absurd (zk_lka_mem h) List.not_mem_nil⟩
theorem THo_X11_isSolved : ∀ pc X, M_X11_isSolved.2.2.2.2.1 pc = some X → zk_TH RX11 cX11_isSolved rm_X11_isSolved pc X := fun pc X h => absurd (zk_lka_mem h) List.not_mem_nil
def cl_X11_farWay : List (Nat × List (Nat × Instr)) := [(18, [(0, .aload_n 0), (1, .iload_n 1), (2, .invokevirtual 233), (5, .ifCond .eq 11), (8, .aload_n 0), (9, .iload_n 1), (10, .invokevirtual 236), (13, .goto 4), (16, .iconst 0), (17, .ireturn)])]
theorem clo_X11_farWay : zk_okc cX11_farWay cl_X11_farWay = true := by decide +kernel
def rm_X11_farWay : Room := { frames := 5, cells := 0, slots := 0, locals := 117 }
def M_X11_farWay : zk_M := (zk_lkc cl_X11_farWay, zk_in [], tb_X11, (some (.int), 0, 0), (zk_lka [], fun _ _ => none, zk_in [], zk_in [], zk_lka []))
theorem MO_X11_farWay : zk_MO RX11 cX11_farWay (yX11_farWay.name = "<init>") M_X11_farWay := zk_MO_of clo_X11_farWay rfl tbo_X11
theorem TO_X11_farWay : zk_TO RX11 cX11_farWay rm_X11_farWay M_X11_farWay := ⟨fun pc h => absurd (zk_in_mem h) List.not_mem_nil, fun pc h => absurd (zk_in_mem h) List.not_mem_nil, fun pc tag h => absurd (zk_lka_mem h) List.not_mem_nil⟩
theorem THo_X11_farWay : ∀ pc X, M_X11_farWay.2.2.2.2.1 pc = some X → zk_TH RX11 cX11_farWay rm_X11_farWay pc X := fun pc X h => absurd (zk_lka_mem h) List.not_mem_nil
def cl_X11_leaving : List (Nat × List (Nat × Instr)) := [(18, [(0, .aload_n 0), (1, .iload_n 1), (2, .invokevirtual 233), (5, .ifCond .eq 11), (8, .aload_n 0), (9, .iload_n 1), (10, .invokevirtual 239), (13, .goto 4), (16, .iconst 0), (17, .ireturn)])]
theorem clo_X11_leaving : zk_okc cX11_leaving cl_X11_leaving = true := by decide +kernel
def rm_X11_leaving : Room := { frames := 5, cells := 0, slots := 0, locals := 117 }
def M_X11_leaving : zk_M := (zk_lkc cl_X11_leaving, zk_in [], tb_X11, (some (.int), 0, 0), (zk_lka [], fun _ _ => none, zk_in [], zk_in [], zk_lka []))
theorem MO_X11_leaving : zk_MO RX11 cX11_leaving (yX11_leaving.name = "<init>") M_X11_leaving := zk_MO_of clo_X11_leaving rfl tbo_X11
theorem TO_X11_leaving : zk_TO RX11 cX11_leaving rm_X11_leaving M_X11_leaving := ⟨fun pc h => absurd (zk_in_mem h) List.not_mem_nil, fun pc h => absurd (zk_in_mem h) List.not_mem_nil, fun pc tag h => absurd (zk_lka_mem h) List.not_mem_nil⟩
theorem THo_X11_leaving : ∀ pc X, M_X11_leaving.2.2.2.2.1 pc = some X → zk_TH RX11 cX11_leaving rm_X11_leaving pc X := fun pc X h => absurd (zk_lka_mem h) List.not_mem_nil
def cl_X11_middleWay : List (Nat × List (Nat × Instr)) := [(18, [(0, .aload_n 0), (1, .iload_n 1), (2, .invokevirtual 233), (5, .ifCond .eq 11), (8, .aload_n 0), (9, .iload_n 1), (10, .invokevirtual 242), (13, .goto 4), (16, .iconst 0), (17, .ireturn)])]
theorem clo_X11_middleWay : zk_okc cX11_middleWay cl_X11_middleWay = true := by decide +kernel
def rm_X11_middleWay : Room := { frames := 5, cells := 0, slots := 0, locals := 117 }
def M_X11_middleWay : zk_M := (zk_lkc cl_X11_middleWay, zk_in [], tb_X11, (some (.int), 0, 0), (zk_lka [], fun _ _ => none, zk_in [], zk_in [], zk_lka []))
theorem MO_X11_middleWay : zk_MO RX11 cX11_middleWay (yX11_middleWay.name = "<init>") M_X11_middleWay := zk_MO_of clo_X11_middleWay rfl tbo_X11
theorem TO_X11_middleWay : zk_TO RX11 cX11_middleWay rm_X11_middleWay M_X11_middleWay := ⟨fun pc h => absurd (zk_in_mem h) List.not_mem_nil, fun pc h => absurd (zk_in_mem h) List.not_mem_nil, fun pc tag h => absurd (zk_lka_mem h) List.not_mem_nil⟩
theorem THo_X11_middleWay : ∀ pc X, M_X11_middleWay.2.2.2.2.1 pc = some X → zk_TH RX11 cX11_middleWay rm_X11_middleWay pc X := fun pc X h => absurd (zk_lka_mem h) List.not_mem_nil
def cl_X11_depth : List (Nat × List (Nat × Instr)) := [(19, [(0, .aload_n 0), (1, .iload_n 1), (2, .invokevirtual 233), (5, .ifCond .eq 12), (8, .aload_n 0), (9, .getfield 92), (12, .iload_n 1), (13, .iaload), (14, .goto 4), (17, .iconst 0), (18, .ireturn)])]
theorem clo_X11_depth : zk_okc cX11_depth cl_X11_depth = true := by decide +kernel
def rm_X11_depth : Room := { frames := 5, cells := 0, slots := 0, locals := 117 }
def M_X11_depth : zk_M := (zk_lkc cl_X11_depth, zk_in [], tb_X11, (some (.int), 0, 0), (zk_lka [], fun _ _ => none, zk_in [], zk_in [], zk_lka []))
theorem MO_X11_depth : zk_MO RX11 cX11_depth (yX11_depth.name = "<init>") M_X11_depth := zk_MO_of clo_X11_depth rfl tbo_X11
theorem TO_X11_depth : zk_TO RX11 cX11_depth rm_X11_depth M_X11_depth := ⟨fun pc h => absurd (zk_in_mem h) List.not_mem_nil, fun pc h => absurd (zk_in_mem h) List.not_mem_nil, fun pc tag h => absurd (zk_lka_mem h) List.not_mem_nil⟩
theorem THo_X11_depth : ∀ pc X, M_X11_depth.2.2.2.2.1 pc = some X → zk_TH RX11 cX11_depth rm_X11_depth pc X := fun pc X h => absurd (zk_lka_mem h) List.not_mem_nil
def cl_X11_wayNow : List (Nat × List (Nat × Instr)) := [(22, [(0, .aload_n 0), (1, .iload_n 1), (2, .invokevirtual 189), (5, .bipush (-2)), (7, .if_icmp .eq 14), (10, .aload_n 0), (11, .getfield 83), (14, .iload_n 1), (15, .iaload), (16, .ldc 201), (18, .if_icmp .ne 7), (21, .iconst (-1))]),
  (32, [(22, .goto 9), (25, .aload_n 0), (26, .getfield 83), (29, .iload_n 1), (30, .iaload), (31, .ireturn)])]
theorem clo_X11_wayNow : zk_okc cX11_wayNow cl_X11_wayNow = true := by decide +kernel
def rm_X11_wayNow : Room := { frames := 1, cells := 0, slots := 0, locals := 23 }
def M_X11_wayNow : zk_M := (zk_lkc cl_X11_wayNow, zk_in [], tb_X11, (some (.int), 0, 0), (zk_lka [], fun _ _ => none, zk_in [], zk_in [], zk_lka []))
theorem MO_X11_wayNow : zk_MO RX11 cX11_wayNow (yX11_wayNow.name = "<init>") M_X11_wayNow := zk_MO_of clo_X11_wayNow rfl tbo_X11
theorem TO_X11_wayNow : zk_TO RX11 cX11_wayNow rm_X11_wayNow M_X11_wayNow := ⟨fun pc h => absurd (zk_in_mem h) List.not_mem_nil, fun pc h => absurd (zk_in_mem h) List.not_mem_nil, fun pc tag h => absurd (zk_lka_mem h) List.not_mem_nil⟩
theorem THo_X11_wayNow : ∀ pc X, M_X11_wayNow.2.2.2.2.1 pc = some X → zk_TH RX11 cX11_wayNow rm_X11_wayNow pc X := fun pc X h => absurd (zk_lka_mem h) List.not_mem_nil
def cl_X11_way : List (Nat × List (Nat × Instr)) := [(20, [(0, .aload_n 0), (1, .iconst 0), (2, .putfield 104), (5, .aload_n 0), (6, .iload_n 1), (7, .invokevirtual 167), (10, .ifCond .ne 9), (13, .aload_n 0), (14, .iconst 1), (15, .invokevirtual 130), (18, .ireturn), (19, .aload_n 0)]),
  (38, [(20, .invokevirtual 227), (23, .aload_n 0), (24, .iconst 2), (25, .iload_n 1), (26, .imul), (27, .iload_n 2), (28, .ifCond .eq 7), (31, .iconst 1), (32, .goto 4), (35, .iconst 0), (36, .iadd), (37, .invokevirtual 245)]),
  (41, [(40, .ireturn)])]
theorem clo_X11_way : zk_okc cX11_way cl_X11_way = true := by decide +kernel
def rm_X11_way : Room := { frames := 4, cells := 0, slots := 0, locals := 96 }
def M_X11_way : zk_M := (zk_lkc cl_X11_way, zk_in [], tb_X11, (some (.int), 0, 0), (zk_lka [], fun _ _ => none, zk_in [], zk_in [], zk_lka []))
theorem MO_X11_way : zk_MO RX11 cX11_way (yX11_way.name = "<init>") M_X11_way := zk_MO_of clo_X11_way rfl tbo_X11
theorem TO_X11_way : zk_TO RX11 cX11_way rm_X11_way M_X11_way := ⟨fun pc h => absurd (zk_in_mem h) List.not_mem_nil, fun pc h => absurd (zk_in_mem h) List.not_mem_nil, fun pc tag h => absurd (zk_lka_mem h) List.not_mem_nil⟩
theorem THo_X11_way : ∀ pc X, M_X11_way.2.2.2.2.1 pc = some X → zk_TH RX11 cX11_way rm_X11_way pc X := fun pc X h => absurd (zk_lka_mem h) List.not_mem_nil
def cl_X11_loadNow : List (Nat × List (Nat × Instr)) := [(18, [(0, .iconst 0), (1, .istore_n 2), (2, .iconst 0), (3, .istore_n 3), (4, .iload_n 3), (5, .aload_n 0), (6, .getfield 108), (9, .if_icmp .ge 83), (12, .aload_n 0), (13, .getfield 9), (16, .iload_n 3), (17, .iaload)]),
  (41, [(18, .bipush (-2)), (20, .if_icmp .eq 66), (23, .aload_n 0), (24, .getfield 92), (27, .iload_n 3), (28, .iaload), (29, .ifCond .ge 6), (32, .goto 54), (35, .iload_n 3), (36, .istore 4), (38, .iload 4), (40, .iconst (-1))]),
  (60, [(41, .if_icmp .eq 45), (44, .iload_n 2), (45, .aload_n 0), (46, .getfield 86), (49, .iload 4), (51, .iaload), (52, .iconst 2), (53, .idiv), (54, .iload_n 1), (55, .if_icmp .ne 12), (58, .aload_n 0), (59, .getfield 28)]),
  (79, [(62, .iload_n 3), (63, .iaload), (64, .goto 4), (67, .iconst 0), (68, .iadd), (69, .istore_n 2), (70, .aload_n 0), (71, .aload_n 0), (72, .getfield 86), (75, .iload 4), (77, .iaload), (78, .invokevirtual 213)]),
  (94, [(81, .istore 4), (83, .goto (-45)), (86, .iinc 3 1), (89, .goto (-85)), (92, .iload_n 2), (93, .ireturn)])]
theorem clo_X11_loadNow : zk_okc cX11_loadNow cl_X11_loadNow = true := by decide +kernel
def rm_X11_loadNow : Room := { frames := 1, cells := 0, slots := 0, locals := 22 }
def M_X11_loadNow : zk_M := (zk_lkc cl_X11_loadNow, zk_in [4, 38], tb_X11, (some (.int), 0, 0), (zk_lka [], fun _ _ => none, zk_in [], zk_in [], zk_lka []))
theorem MO_X11_loadNow : zk_MO RX11 cX11_loadNow (yX11_loadNow.name = "<init>") M_X11_loadNow := zk_MO_of clo_X11_loadNow rfl tbo_X11
theorem TO_X11_loadNow : zk_TO RX11 cX11_loadNow rm_X11_loadNow M_X11_loadNow := ⟨fun pc h => absurd (zk_in_mem h) List.not_mem_nil, fun pc h => absurd (zk_in_mem h) List.not_mem_nil, fun pc tag h => absurd (zk_lka_mem h) List.not_mem_nil⟩
theorem THo_X11_loadNow : ∀ pc X, M_X11_loadNow.2.2.2.2.1 pc = some X → zk_TH RX11 cX11_loadNow rm_X11_loadNow pc X := fun pc X h => absurd (zk_lka_mem h) List.not_mem_nil
def cl_X11_load : List (Nat × List (Nat × Instr)) := [(20, [(0, .aload_n 0), (1, .iconst 0), (2, .putfield 104), (5, .aload_n 0), (6, .iload_n 1), (7, .invokevirtual 167), (10, .ifCond .ne 9), (13, .aload_n 0), (14, .iconst 1), (15, .invokevirtual 130), (18, .ireturn), (19, .aload_n 0)]),
  (29, [(20, .invokevirtual 227), (23, .aload_n 0), (24, .iload_n 1), (25, .invokevirtual 248), (28, .ireturn)])]
theorem clo_X11_load : zk_okc cX11_load cl_X11_load = true := by decide +kernel
def rm_X11_load : Room := { frames := 4, cells := 0, slots := 0, locals := 96 }
def M_X11_load : zk_M := (zk_lkc cl_X11_load, zk_in [], tb_X11, (some (.int), 0, 0), (zk_lka [], fun _ _ => none, zk_in [], zk_in [], zk_lka []))
theorem MO_X11_load : zk_MO RX11 cX11_load (yX11_load.name = "<init>") M_X11_load := zk_MO_of clo_X11_load rfl tbo_X11
theorem TO_X11_load : zk_TO RX11 cX11_load rm_X11_load M_X11_load := ⟨fun pc h => absurd (zk_in_mem h) List.not_mem_nil, fun pc h => absurd (zk_in_mem h) List.not_mem_nil, fun pc tag h => absurd (zk_lka_mem h) List.not_mem_nil⟩
theorem THo_X11_load : ∀ pc X, M_X11_load.2.2.2.2.1 pc = some X → zk_TH RX11 cX11_load rm_X11_load pc X := fun pc X h => absurd (zk_lka_mem h) List.not_mem_nil
def cl_X11_stairsLoad : List (Nat × List (Nat × Instr)) := [(20, [(0, .aload_n 0), (1, .iconst 0), (2, .putfield 104), (5, .aload_n 0), (6, .iload_n 1), (7, .invokevirtual 251), (10, .ifCond .ne 9), (13, .aload_n 0), (14, .iconst 1), (15, .invokevirtual 130), (18, .ireturn), (19, .aload_n 0)]),
  (32, [(20, .invokevirtual 227), (23, .aload_n 0), (24, .bipush 40), (26, .iload_n 1), (27, .iadd), (28, .invokevirtual 248), (31, .ireturn)])]
theorem clo_X11_stairsLoad : zk_okc cX11_stairsLoad cl_X11_stairsLoad = true := by decide +kernel
def rm_X11_stairsLoad : Room := { frames := 4, cells := 0, slots := 0, locals := 96 }
def M_X11_stairsLoad : zk_M := (zk_lkc cl_X11_stairsLoad, zk_in [], tb_X11, (some (.int), 0, 0), (zk_lka [], fun _ _ => none, zk_in [], zk_in [], zk_lka []))
theorem MO_X11_stairsLoad : zk_MO RX11 cX11_stairsLoad (yX11_stairsLoad.name = "<init>") M_X11_stairsLoad := zk_MO_of clo_X11_stairsLoad rfl tbo_X11
theorem TO_X11_stairsLoad : zk_TO RX11 cX11_stairsLoad rm_X11_stairsLoad M_X11_stairsLoad := ⟨fun pc h => absurd (zk_in_mem h) List.not_mem_nil, fun pc h => absurd (zk_in_mem h) List.not_mem_nil, fun pc tag h => absurd (zk_lka_mem h) List.not_mem_nil⟩
theorem THo_X11_stairsLoad : ∀ pc X, M_X11_stairsLoad.2.2.2.2.1 pc = some X → zk_TH RX11 cX11_stairsLoad rm_X11_stairsLoad pc X := fun pc X h => absurd (zk_lka_mem h) List.not_mem_nil
def cl_X11_beginning : List (Nat × List (Nat × Instr)) := [(18, [(0, .bipush 20), (2, .newarray .int), (4, .astore_n 1), (5, .iconst 0), (6, .istore_n 2), (7, .iload_n 2), (8, .aload_n 0), (9, .getfield 108), (12, .if_icmp .ge 33), (15, .aload_n 1), (16, .iload_n 2), (17, .aload_n 0)]),
  (39, [(18, .getfield 9), (21, .iload_n 2), (22, .iaload), (23, .bipush (-2)), (25, .if_icmp .ne 7), (28, .iconst 0), (29, .goto 9), (32, .aload_n 0), (33, .getfield 28), (36, .iload_n 2), (37, .iaload), (38, .iastore)]),
  (47, [(39, .iinc 2 1), (42, .goto (-35)), (45, .aload_n 1), (46, .areturn)])]
theorem clo_X11_beginning : zk_okc cX11_beginning cl_X11_beginning = true := by decide +kernel
def rm_X11_beginning : Room := { frames := 0, cells := 1, slots := 20, locals := 0 }
def M_X11_beginning : zk_M := (zk_lkc cl_X11_beginning, zk_in [7], tb_X11, (some (.array .int), 1, 20), (zk_lka [], fun _ _ => none, zk_in [], zk_in [], zk_lka []))
theorem MO_X11_beginning : zk_MO RX11 cX11_beginning (yX11_beginning.name = "<init>") M_X11_beginning := zk_MO_of clo_X11_beginning rfl tbo_X11
theorem TO_X11_beginning : zk_TO RX11 cX11_beginning rm_X11_beginning M_X11_beginning := ⟨fun pc h => absurd (zk_in_mem h) List.not_mem_nil, fun pc h => absurd (zk_in_mem h) List.not_mem_nil, fun pc tag h => absurd (zk_lka_mem h) List.not_mem_nil⟩
theorem THo_X11_beginning : ∀ pc X, M_X11_beginning.2.2.2.2.1 pc = some X → zk_TH RX11 cX11_beginning rm_X11_beginning pc X := fun pc X h => absurd (zk_lka_mem h) List.not_mem_nil
def cl_X11_tick : List (Nat × List (Nat × Instr)) := [(22, [(0, .iconst 0), (1, .istore 4), (3, .iconst 0), (4, .istore 5), (6, .iload 5), (8, .aload_n 0), (9, .getfield 108), (12, .if_icmp .ge 17), (15, .aload_n 0), (16, .getfield 101), (19, .iload 5), (21, .iconst 0)]),
  (46, [(22, .iastore), (23, .iinc 5 1), (26, .goto (-20)), (29, .iconst 0), (30, .istore 5), (32, .iload 5), (34, .aload_n 0), (35, .getfield 108), (38, .if_icmp .ge 89), (41, .aload_n 0), (42, .getfield 9), (45, .iload 5)]),
  (71, [(47, .iaload), (48, .bipush (-2)), (50, .if_icmp .eq 71), (53, .aload_n 0), (54, .getfield 92), (57, .iload 5), (59, .iaload), (60, .ifCond .ge 6), (63, .goto 58), (66, .aload_n 0), (67, .getfield 86), (70, .iload 5)]),
  (90, [(72, .iaload), (73, .iconst 2), (74, .idiv), (75, .istore 6), (77, .aload_n 0), (78, .getfield 101), (81, .iload 5), (83, .aload_n 1), (84, .iload 5), (86, .iaload), (87, .iload 6), (89, .bipush 40)]),
  (113, [(91, .if_icmp .ge 25), (94, .iconst 2), (95, .iload 6), (97, .iload_n 2), (98, .if_icmp .ne 7), (101, .iload_n 3), (102, .goto 10), (105, .aload_n 0), (106, .getfield 43), (109, .iload 6), (111, .iaload), (112, .imul)]),
  (137, [(113, .goto 4), (116, .iconst 3), (117, .invokestatic 121), (120, .iastore), (121, .iinc 5 1), (124, .goto (-92)), (127, .iconst 0), (128, .istore 5), (130, .iload 5), (132, .aload_n 0), (133, .getfield 108), (136, .if_icmp .ge 74)]),
  (159, [(139, .aload_n 0), (140, .getfield 101), (143, .iload 5), (145, .iaload), (146, .ifCond .ne 6), (149, .goto 55), (152, .aload_n 1), (153, .iload 5), (155, .dup2), (156, .iaload), (157, .aload_n 0), (158, .getfield 101)]),
  (179, [(161, .iload 5), (163, .iaload), (164, .isub), (165, .iastore), (166, .aload_n 0), (167, .aload_n 0), (168, .getfield 86), (171, .iload 5), (173, .iaload), (174, .invokevirtual 213), (177, .iconst (-1)), (178, .if_icmp .eq 26)]),
  (200, [(181, .aload_n 1), (182, .aload_n 0), (183, .aload_n 0), (184, .getfield 86), (187, .iload 5), (189, .iaload), (190, .invokevirtual 213), (193, .dup2), (194, .iaload), (195, .aload_n 0), (196, .getfield 101), (199, .iload 5)]),
  (223, [(201, .iaload), (202, .iadd), (203, .iastore), (204, .iinc 5 1), (207, .goto (-77)), (210, .iconst 0), (211, .istore 5), (213, .iload 5), (215, .aload_n 0), (216, .getfield 108), (219, .if_icmp .ge 48), (222, .iload 4)]),
  (247, [(224, .aload_n 0), (225, .getfield 9), (228, .iload 5), (230, .iaload), (231, .bipush (-2)), (233, .if_icmp .eq 24), (236, .aload_n 0), (237, .getfield 92), (240, .iload 5), (242, .iaload), (243, .ifCond .lt 14), (246, .aload_n 1)]),
  (270, [(247, .iload 5), (249, .iaload), (250, .ifCond .le 7), (253, .iconst 1), (254, .goto 4), (257, .iconst 0), (258, .ior), (259, .istore 4), (261, .iinc 5 1), (264, .goto (-51)), (267, .iload 4), (269, .ireturn)])]
theorem clo_X11_tick : zk_okc cX11_tick cl_X11_tick = true := by decide +kernel
def rm_X11_tick : Room := { frames := 1, cells := 0, slots := 0, locals := 23 }
def M_X11_tick : zk_M := (zk_lkc cl_X11_tick, zk_in [6, 32, 130, 213], tb_X11, (some (.boolean), 0, 0), (zk_lka [], fun _ _ => none, zk_in [], zk_in [], zk_lka [(117, 0)]))
theorem MO_X11_tick : zk_MO RX11 cX11_tick (yX11_tick.name = "<init>") M_X11_tick := zk_MO_of clo_X11_tick rfl tbo_X11
theorem TO_X11_tick : zk_TO RX11 cX11_tick rm_X11_tick M_X11_tick := ⟨fun pc h => absurd (zk_in_mem h) List.not_mem_nil, fun pc h => absurd (zk_in_mem h) List.not_mem_nil, fun pc tag h => by
    have h2 := zk_lka_mem h
    simp only [List.mem_cons, List.not_mem_nil, or_false, Prod.mk.injEq] at h2
    rcases h2 with ⟨rfl, rfl⟩
    exact ⟨121, by decide +kernel, zk_wi 1116 (by decide +kernel) rfl, by decide, by decide⟩⟩
theorem THo_X11_tick : ∀ pc X, M_X11_tick.2.2.2.2.1 pc = some X → zk_TH RX11 cX11_tick rm_X11_tick pc X := fun pc X h => absurd (zk_lka_mem h) List.not_mem_nil
def cl_X11_timeNow : List (Nat × List (Nat × Instr)) := [(21, [(0, .aload_n 0), (1, .invokevirtual 254), (4, .astore_n 3), (5, .iconst 0), (6, .istore 4), (8, .iconst 0), (9, .istore 5), (11, .iload 5), (13, .aload_n 0), (14, .getfield 108), (17, .if_icmp .ge 48), (20, .iload 4)]),
  (45, [(22, .aload_n 0), (23, .getfield 9), (26, .iload 5), (28, .iaload), (29, .bipush (-2)), (31, .if_icmp .eq 24), (34, .aload_n 0), (35, .getfield 92), (38, .iload 5), (40, .iaload), (41, .ifCond .lt 14), (44, .aload_n 3)]),
  (67, [(45, .iload 5), (47, .iaload), (48, .ifCond .le 7), (51, .iconst 1), (52, .goto 4), (55, .iconst 0), (56, .ior), (57, .istore 4), (59, .iinc 5 1), (62, .goto (-51)), (65, .iconst 0), (66, .istore 5)]),
  (91, [(68, .iload 4), (70, .ifCond .eq 18), (73, .aload_n 0), (74, .aload_n 3), (75, .iload_n 1), (76, .iload_n 2), (77, .invokevirtual 258), (80, .istore 4), (82, .iinc 5 1), (85, .goto (-17)), (88, .iload 5), (90, .ireturn)])]
theorem clo_X11_timeNow : zk_okc cX11_timeNow cl_X11_timeNow = true := by decide +kernel
def rm_X11_timeNow : Room := { frames := 2, cells := 1, slots := 20, locals := 49 }
def M_X11_timeNow : zk_M := (zk_lkc cl_X11_timeNow, zk_in [11, 68], tb_X11, (some (.int), 1, 20), (zk_lka [], fun _ _ => none, zk_in [], zk_in [], zk_lka []))
theorem MO_X11_timeNow : zk_MO RX11 cX11_timeNow (yX11_timeNow.name = "<init>") M_X11_timeNow := zk_MO_of clo_X11_timeNow rfl tbo_X11
theorem TO_X11_timeNow : zk_TO RX11 cX11_timeNow rm_X11_timeNow M_X11_timeNow := ⟨fun pc h => absurd (zk_in_mem h) List.not_mem_nil, fun pc h => absurd (zk_in_mem h) List.not_mem_nil, fun pc tag h => absurd (zk_lka_mem h) List.not_mem_nil⟩
theorem THo_X11_timeNow : ∀ pc X, M_X11_timeNow.2.2.2.2.1 pc = some X → zk_TH RX11 cX11_timeNow rm_X11_timeNow pc X := fun pc X h => absurd (zk_lka_mem h) List.not_mem_nil
def cl_X11_timeOut : List (Nat × List (Nat × Instr)) := [(16, [(0, .aload_n 0), (1, .iconst 0), (2, .putfield 104), (5, .aload_n 0), (6, .invokevirtual 227), (9, .aload_n 0), (10, .iconst (-1)), (11, .iconst 0), (12, .invokevirtual 262), (15, .ireturn)])]
theorem clo_X11_timeOut : zk_okc cX11_timeOut cl_X11_timeOut = true := by decide +kernel
def rm_X11_timeOut : Room := { frames := 4, cells := 1, slots := 20, locals := 96 }
def M_X11_timeOut : zk_M := (zk_lkc cl_X11_timeOut, zk_in [], tb_X11, (some (.int), 1, 20), (zk_lka [], fun _ _ => none, zk_in [], zk_in [], zk_lka []))
theorem MO_X11_timeOut : zk_MO RX11 cX11_timeOut (yX11_timeOut.name = "<init>") M_X11_timeOut := zk_MO_of clo_X11_timeOut rfl tbo_X11
theorem TO_X11_timeOut : zk_TO RX11 cX11_timeOut rm_X11_timeOut M_X11_timeOut := ⟨fun pc h => absurd (zk_in_mem h) List.not_mem_nil, fun pc h => absurd (zk_in_mem h) List.not_mem_nil, fun pc tag h => absurd (zk_lka_mem h) List.not_mem_nil⟩
theorem THo_X11_timeOut : ∀ pc X, M_X11_timeOut.2.2.2.2.1 pc = some X → zk_TH RX11 cX11_timeOut rm_X11_timeOut pc X := fun pc X h => absurd (zk_lka_mem h) List.not_mem_nil
def cl_X11_behind : List (Nat × List (Nat × Instr)) := [(16, [(0, .aload_n 0), (1, .invokevirtual 254), (4, .astore_n 2), (5, .iconst 0), (6, .istore_n 3), (7, .iload_n 3), (8, .iload_n 1), (9, .if_icmp .ge 22), (12, .aload_n 0), (13, .aload_n 2), (14, .iconst (-1)), (15, .iconst 0)]),
  (33, [(16, .invokevirtual 258), (19, .ifCond .ne 6), (22, .goto 9), (25, .iinc 3 1), (28, .goto (-21)), (31, .aload_n 2), (32, .areturn)])]
theorem clo_X11_behind : zk_okc cX11_behind cl_X11_behind = true := by decide +kernel
def rm_X11_behind : Room := { frames := 2, cells := 1, slots := 20, locals := 49 }
def M_X11_behind : zk_M := (zk_lkc cl_X11_behind, zk_in [7], tb_X11, (some (.array .int), 1, 20), (zk_lka [], fun _ _ => none, zk_in [], zk_in [], zk_lka []))
theorem MO_X11_behind : zk_MO RX11 cX11_behind (yX11_behind.name = "<init>") M_X11_behind := zk_MO_of clo_X11_behind rfl tbo_X11
theorem TO_X11_behind : zk_TO RX11 cX11_behind rm_X11_behind M_X11_behind := ⟨fun pc h => absurd (zk_in_mem h) List.not_mem_nil, fun pc h => absurd (zk_in_mem h) List.not_mem_nil, fun pc tag h => absurd (zk_lka_mem h) List.not_mem_nil⟩
theorem THo_X11_behind : ∀ pc X, M_X11_behind.2.2.2.2.1 pc = some X → zk_TH RX11 cX11_behind rm_X11_behind pc X := fun pc X h => absurd (zk_lka_mem h) List.not_mem_nil
def cl_X11_leftNow : List (Nat × List (Nat × Instr)) := [(18, [(0, .iconst 0), (1, .istore_n 2), (2, .aload_n 0), (3, .iload_n 1), (4, .invokevirtual 265), (7, .astore_n 3), (8, .iconst 0), (9, .istore 4), (11, .iload 4), (13, .aload_n 0), (14, .getfield 108), (17, .if_icmp .ge 16)]),
  (35, [(20, .iload_n 2), (21, .aload_n 3), (22, .iload 4), (24, .iaload), (25, .iadd), (26, .istore_n 2), (27, .iinc 4 1), (30, .goto (-19)), (33, .iload_n 2), (34, .ireturn)])]
theorem clo_X11_leftNow : zk_okc cX11_leftNow cl_X11_leftNow = true := by decide +kernel
def rm_X11_leftNow : Room := { frames := 3, cells := 1, slots := 20, locals := 72 }
def M_X11_leftNow : zk_M := (zk_lkc cl_X11_leftNow, zk_in [11], tb_X11, (some (.int), 1, 20), (zk_lka [], fun _ _ => none, zk_in [], zk_in [], zk_lka []))
theorem MO_X11_leftNow : zk_MO RX11 cX11_leftNow (yX11_leftNow.name = "<init>") M_X11_leftNow := zk_MO_of clo_X11_leftNow rfl tbo_X11
theorem TO_X11_leftNow : zk_TO RX11 cX11_leftNow rm_X11_leftNow M_X11_leftNow := ⟨fun pc h => absurd (zk_in_mem h) List.not_mem_nil, fun pc h => absurd (zk_in_mem h) List.not_mem_nil, fun pc tag h => absurd (zk_lka_mem h) List.not_mem_nil⟩
theorem THo_X11_leftNow : ∀ pc X, M_X11_leftNow.2.2.2.2.1 pc = some X → zk_TH RX11 cX11_leftNow rm_X11_leftNow pc X := fun pc X h => absurd (zk_lka_mem h) List.not_mem_nil
def cl_X11_left : List (Nat × List (Nat × Instr)) := [(22, [(0, .aload_n 0), (1, .iconst 0), (2, .putfield 104), (5, .iload_n 1), (6, .iconst 0), (7, .sipush 999), (10, .invokestatic 111), (13, .ifCond .ne 9), (16, .aload_n 0), (17, .iconst 1), (18, .invokevirtual 130), (21, .ireturn)]),
  (32, [(22, .aload_n 0), (23, .invokevirtual 227), (26, .aload_n 0), (27, .iload_n 1), (28, .invokevirtual 269), (31, .ireturn)])]
theorem clo_X11_left : zk_okc cX11_left cl_X11_left = true := by decide +kernel
def rm_X11_left : Room := { frames := 4, cells := 1, slots := 20, locals := 96 }
def M_X11_left : zk_M := (zk_lkc cl_X11_left, zk_in [], tb_X11, (some (.int), 1, 20), (zk_lka [], fun _ _ => none, zk_in [], zk_in [], zk_lka []))
theorem MO_X11_left : zk_MO RX11 cX11_left (yX11_left.name = "<init>") M_X11_left := zk_MO_of clo_X11_left rfl tbo_X11
theorem TO_X11_left : zk_TO RX11 cX11_left rm_X11_left M_X11_left := ⟨fun pc h => absurd (zk_in_mem h) List.not_mem_nil, fun pc h => absurd (zk_in_mem h) List.not_mem_nil, fun pc tag h => absurd (zk_lka_mem h) List.not_mem_nil⟩
theorem THo_X11_left : ∀ pc X, M_X11_left.2.2.2.2.1 pc = some X → zk_TH RX11 cX11_left rm_X11_left pc X := fun pc X h => absurd (zk_lka_mem h) List.not_mem_nil
def cl_X11_inRoom : List (Nat × List (Nat × Instr)) := [(20, [(0, .aload_n 0), (1, .iconst 0), (2, .putfield 104), (5, .aload_n 0), (6, .iload_n 1), (7, .invokevirtual 137), (10, .ifCond .ne 9), (13, .aload_n 0), (14, .iconst 1), (15, .invokevirtual 130), (18, .ireturn), (19, .iload_n 2)]),
  (42, [(20, .iconst 0), (21, .sipush 999), (24, .invokestatic 111), (27, .ifCond .ne 9), (30, .aload_n 0), (31, .iconst 2), (32, .invokevirtual 130), (35, .ireturn), (36, .aload_n 0), (37, .invokevirtual 227), (40, .aload_n 0), (41, .iload_n 2)]),
  (48, [(42, .invokevirtual 265), (45, .iload_n 1), (46, .iaload), (47, .ireturn)])]
theorem clo_X11_inRoom : zk_okc cX11_inRoom cl_X11_inRoom = true := by decide +kernel
def rm_X11_inRoom : Room := { frames := 4, cells := 1, slots := 20, locals := 96 }
def M_X11_inRoom : zk_M := (zk_lkc cl_X11_inRoom, zk_in [], tb_X11, (some (.int), 1, 20), (zk_lka [], fun _ _ => none, zk_in [], zk_in [], zk_lka []))
theorem MO_X11_inRoom : zk_MO RX11 cX11_inRoom (yX11_inRoom.name = "<init>") M_X11_inRoom := zk_MO_of clo_X11_inRoom rfl tbo_X11
theorem TO_X11_inRoom : zk_TO RX11 cX11_inRoom rm_X11_inRoom M_X11_inRoom := ⟨fun pc h => absurd (zk_in_mem h) List.not_mem_nil, fun pc h => absurd (zk_in_mem h) List.not_mem_nil, fun pc tag h => absurd (zk_lka_mem h) List.not_mem_nil⟩
theorem THo_X11_inRoom : ∀ pc X, M_X11_inRoom.2.2.2.2.1 pc = some X → zk_TH RX11 cX11_inRoom rm_X11_inRoom pc X := fun pc X h => absurd (zk_lka_mem h) List.not_mem_nil
def cl_X11_exits : List (Nat × List (Nat × Instr)) := [(18, [(0, .aload_n 0), (1, .invokevirtual 210), (4, .iconst 0), (5, .istore_n 2), (6, .iconst 0), (7, .istore_n 3), (8, .iload_n 3), (9, .aload_n 0), (10, .getfield 186), (13, .if_icmp .ge 31), (16, .iload_n 2), (17, .aload_n 0)]),
  (38, [(18, .aload_n 0), (19, .getfield 98), (22, .iload_n 3), (23, .iaload), (24, .iload_n 1), (25, .invokevirtual 202), (28, .ifCond .eq 7), (31, .iconst 1), (32, .goto 4), (35, .iconst 0), (36, .iadd), (37, .istore_n 2)]),
  (46, [(38, .iinc 3 1), (41, .goto (-33)), (44, .iload_n 2), (45, .ireturn)])]
theorem clo_X11_exits : zk_okc cX11_exits cl_X11_exits = true := by decide +kernel
def rm_X11_exits : Room := { frames := 2, cells := 0, slots := 0, locals := 45 }
def M_X11_exits : zk_M := (zk_lkc cl_X11_exits, zk_in [8], tb_X11, (some (.int), 0, 0), (zk_lka [], fun _ _ => none, zk_in [], zk_in [], zk_lka []))
theorem MO_X11_exits : zk_MO RX11 cX11_exits (yX11_exits.name = "<init>") M_X11_exits := zk_MO_of clo_X11_exits rfl tbo_X11
theorem TO_X11_exits : zk_TO RX11 cX11_exits rm_X11_exits M_X11_exits := ⟨fun pc h => absurd (zk_in_mem h) List.not_mem_nil, fun pc h => absurd (zk_in_mem h) List.not_mem_nil, fun pc tag h => absurd (zk_lka_mem h) List.not_mem_nil⟩
theorem THo_X11_exits : ∀ pc X, M_X11_exits.2.2.2.2.1 pc = some X → zk_TH RX11 cX11_exits rm_X11_exits pc X := fun pc X h => absurd (zk_lka_mem h) List.not_mem_nil
def cl_X11_wetAbove : List (Nat × List (Nat × Instr)) := [(18, [(0, .iconst 0), (1, .istore_n 2), (2, .iconst 0), (3, .istore_n 3), (4, .iload_n 3), (5, .aload_n 0), (6, .getfield 108), (9, .if_icmp .ge 59), (12, .iload_n 2), (13, .aload_n 0), (14, .getfield 9), (17, .iload_n 3)]),
  (37, [(18, .iaload), (19, .bipush (-2)), (21, .if_icmp .eq 38), (24, .aload_n 0), (25, .getfield 9), (28, .iload_n 3), (29, .iaload), (30, .aload_n 0), (31, .getfield 9), (34, .iload_n 1), (35, .iaload), (36, .iconst 1)]),
  (57, [(37, .isub), (38, .if_icmp .ne 21), (41, .aload_n 0), (42, .getfield 25), (45, .iload_n 3), (46, .iaload), (47, .ifCond .ne 12), (50, .aload_n 0), (51, .iload_n 1), (52, .iload_n 3), (53, .invokevirtual 134), (56, .goto 4)]),
  (70, [(59, .iconst 0), (60, .iadd), (61, .istore_n 2), (62, .iinc 3 1), (65, .goto (-61)), (68, .iload_n 2), (69, .ireturn)])]
theorem clo_X11_wetAbove : zk_okc cX11_wetAbove cl_X11_wetAbove = true := by decide +kernel
def rm_X11_wetAbove : Room := { frames := 2, cells := 0, slots := 0, locals := 47 }
def M_X11_wetAbove : zk_M := (zk_lkc cl_X11_wetAbove, zk_in [4], tb_X11, (some (.int), 0, 0), (zk_lka [], fun _ _ => none, zk_in [], zk_in [], zk_lka []))
theorem MO_X11_wetAbove : zk_MO RX11 cX11_wetAbove (yX11_wetAbove.name = "<init>") M_X11_wetAbove := zk_MO_of clo_X11_wetAbove rfl tbo_X11
theorem TO_X11_wetAbove : zk_TO RX11 cX11_wetAbove rm_X11_wetAbove M_X11_wetAbove := ⟨fun pc h => absurd (zk_in_mem h) List.not_mem_nil, fun pc h => absurd (zk_in_mem h) List.not_mem_nil, fun pc tag h => absurd (zk_lka_mem h) List.not_mem_nil⟩
theorem THo_X11_wetAbove : ∀ pc X, M_X11_wetAbove.2.2.2.2.1 pc = some X → zk_TH RX11 cX11_wetAbove rm_X11_wetAbove pc X := fun pc X h => absurd (zk_lka_mem h) List.not_mem_nil
def cl_X11_byRoom : List (Nat × List (Nat × Instr)) := [(64, [(0, .iload_n 1), (1, .tableswitch 236 0 7 #[47, 74, 236, 99, 127, 170, 193, 221]), (48, .aload_n 0), (49, .getfield 92), (52, .iload_n 2), (53, .iaload), (54, .ifCond .ge 19), (57, .aload_n 0), (58, .getfield 28), (61, .iload_n 2), (62, .iaload), (63, .aload_n 0)]),
  (84, [(64, .getfield 80), (67, .iconst 0), (68, .iaload), (69, .isub), (70, .goto 4), (73, .iconst 0), (74, .ireturn), (75, .aload_n 0), (76, .iload_n 2), (77, .invokevirtual 230), (80, .ifCond .eq 7), (83, .iconst 0)]),
  (102, [(84, .goto 15), (87, .aload_n 0), (88, .iload_n 2), (89, .invokevirtual 236), (92, .aload_n 0), (93, .getfield 80), (96, .iconst 1), (97, .iaload), (98, .isub), (99, .ireturn), (100, .aload_n 0), (101, .getfield 80)]),
  (120, [(104, .iconst 3), (105, .iaload), (106, .aload_n 0), (107, .getfield 28), (110, .iload_n 2), (111, .iaload), (112, .imul), (113, .aload_n 0), (114, .getfield 19), (117, .iload_n 2), (118, .iaload), (119, .aload_n 0)]),
  (138, [(120, .getfield 22), (123, .iload_n 2), (124, .iaload), (125, .imul), (126, .isub), (127, .ireturn), (128, .aload_n 0), (129, .getfield 25), (132, .iload_n 2), (133, .iaload), (134, .ifCond .ne 35), (137, .aload_n 0)]),
  (156, [(138, .getfield 19), (141, .iload_n 2), (142, .iaload), (143, .aload_n 0), (144, .getfield 22), (147, .iload_n 2), (148, .iaload), (149, .imul), (150, .aload_n 0), (151, .getfield 80), (154, .iconst 4), (155, .iaload)]),
  (173, [(156, .imul), (157, .bipush 100), (159, .idiv), (160, .aload_n 0), (161, .iload_n 2), (162, .invokevirtual 161), (165, .isub), (166, .goto 4), (169, .iconst 0), (170, .ireturn), (171, .aload_n 0), (172, .getfield 19)]),
  (193, [(175, .iload_n 2), (176, .iaload), (177, .aload_n 0), (178, .getfield 22), (181, .iload_n 2), (182, .iaload), (183, .invokestatic 121), (186, .aload_n 0), (187, .getfield 80), (190, .iconst 5), (191, .iaload), (192, .isub)]),
  (211, [(193, .ireturn), (194, .aload_n 0), (195, .iload_n 2), (196, .invokevirtual 272), (199, .iconst 2), (200, .if_icmp .ge 20), (203, .aload_n 0), (204, .getfield 28), (207, .iload_n 2), (208, .iaload), (209, .aload_n 0), (210, .getfield 80)]),
  (230, [(213, .bipush 6), (215, .iaload), (216, .isub), (217, .goto 4), (220, .iconst 0), (221, .ireturn), (222, .aload_n 0), (223, .getfield 92), (226, .iload_n 2), (227, .iaload), (228, .aload_n 0), (229, .getfield 80)]),
  (249, [(232, .bipush 7), (234, .iaload), (235, .isub), (236, .ireturn), (237, .aload_n 0), (238, .getfield 25), (241, .iload_n 2), (242, .iaload), (243, .iconst 3), (244, .if_icmp .ne 19), (247, .aload_n 0), (248, .iload_n 2)]),
  (265, [(249, .invokevirtual 275), (252, .aload_n 0), (253, .getfield 80), (256, .bipush 9), (258, .iaload), (259, .isub), (260, .goto 4), (263, .iconst 0), (264, .ireturn)])]
theorem clo_X11_byRoom : zk_okc cX11_byRoom cl_X11_byRoom = true := by decide +kernel
def rm_X11_byRoom : Room := { frames := 4, cells := 0, slots := 0, locals := 95 }
def M_X11_byRoom : zk_M := (zk_lkc cl_X11_byRoom, zk_in [], tb_X11, (some (.int), 0, 0), (zk_lka [], fun _ _ => none, zk_in [], zk_in [], zk_lka [(183, 0)]))
theorem MO_X11_byRoom : zk_MO RX11 cX11_byRoom (yX11_byRoom.name = "<init>") M_X11_byRoom := zk_MO_of clo_X11_byRoom rfl tbo_X11
theorem TO_X11_byRoom : zk_TO RX11 cX11_byRoom rm_X11_byRoom M_X11_byRoom := ⟨fun pc h => absurd (zk_in_mem h) List.not_mem_nil, fun pc h => absurd (zk_in_mem h) List.not_mem_nil, fun pc tag h => by
    have h2 := zk_lka_mem h
    simp only [List.mem_cons, List.not_mem_nil, or_false, Prod.mk.injEq] at h2
    rcases h2 with ⟨rfl, rfl⟩
    exact ⟨121, by decide +kernel, zk_wi 1116 (by decide +kernel) rfl, by decide, by decide⟩⟩
theorem THo_X11_byRoom : ∀ pc X, M_X11_byRoom.2.2.2.2.1 pc = some X → zk_TH RX11 cX11_byRoom rm_X11_byRoom pc X := fun pc X h => absurd (zk_lka_mem h) List.not_mem_nil
def cl_X11_tell : List (Nat × List (Nat × Instr)) := [(18, [(0, .iload_n 3), (1, .ifCond .gt 4), (4, .return_), (5, .aload_n 0), (6, .getfield 95), (9, .iconst 3), (10, .aload_n 0), (11, .getfield 278), (14, .imul), (15, .iload_n 1), (16, .iastore), (17, .aload_n 0)]),
  (36, [(18, .getfield 95), (21, .iconst 3), (22, .aload_n 0), (23, .getfield 278), (26, .imul), (27, .iconst 1), (28, .iadd), (29, .iload_n 2), (30, .iastore), (31, .aload_n 0), (32, .getfield 95), (35, .iconst 3)]),
  (52, [(36, .aload_n 0), (37, .getfield 278), (40, .imul), (41, .iconst 2), (42, .iadd), (43, .iload_n 3), (44, .iastore), (45, .aload_n 0), (46, .dup), (47, .getfield 278), (50, .iconst 1), (51, .iadd)]),
  (56, [(52, .putfield 278), (55, .return_)])]
theorem clo_X11_tell : zk_okc cX11_tell cl_X11_tell = true := by decide +kernel
def rm_X11_tell : Room := { frames := 0, cells := 0, slots := 0, locals := 0 }
def M_X11_tell : zk_M := (zk_lkc cl_X11_tell, zk_in [], tb_X11, (none, 0, 0), (zk_lka [], fun _ _ => none, zk_in [], zk_in [], zk_lka []))
theorem MO_X11_tell : zk_MO RX11 cX11_tell (yX11_tell.name = "<init>") M_X11_tell := zk_MO_of clo_X11_tell rfl tbo_X11
theorem TO_X11_tell : zk_TO RX11 cX11_tell rm_X11_tell M_X11_tell := ⟨fun pc h => absurd (zk_in_mem h) List.not_mem_nil, fun pc h => absurd (zk_in_mem h) List.not_mem_nil, fun pc tag h => absurd (zk_lka_mem h) List.not_mem_nil⟩
theorem THo_X11_tell : ∀ pc X, M_X11_tell.2.2.2.2.1 pc = some X → zk_TH RX11 cX11_tell rm_X11_tell pc X := fun pc X h => absurd (zk_lka_mem h) List.not_mem_nil
def cl_X11_tellFaults : List (Nat × List (Nat × Instr)) := [(19, [(0, .aload_n 0), (1, .invokevirtual 227), (4, .aload_n 0), (5, .iconst 0), (6, .putfield 278), (9, .iconst 0), (10, .istore_n 1), (11, .iload_n 1), (12, .bipush 10), (14, .if_icmp .ge 172), (17, .iconst 0), (18, .istore_n 2)]),
  (39, [(19, .iload_n 2), (20, .aload_n 0), (21, .getfield 115), (24, .if_icmp .ge 50), (27, .iload_n 1), (28, .iconst 2), (29, .if_icmp .ne 45), (32, .aload_n 0), (33, .getfield 31), (36, .iload_n 2), (37, .iaload), (38, .bipush (-2))]),
  (58, [(40, .if_icmp .eq 28), (43, .aload_n 0), (44, .iconst 2), (45, .iload_n 2), (46, .aload_n 0), (47, .iload_n 2), (48, .invokevirtual 248), (51, .aload_n 0), (52, .getfield 80), (55, .iconst 2), (56, .iaload), (57, .aload_n 0)]),
  (78, [(58, .getfield 43), (61, .iload_n 2), (62, .iaload), (63, .imul), (64, .isub), (65, .invokevirtual 281), (68, .iinc 2 1), (71, .goto (-52)), (74, .iconst 0), (75, .istore_n 2), (76, .iload_n 2), (77, .aload_n 0)]),
  (102, [(78, .getfield 118), (81, .if_icmp .ge 49), (84, .iload_n 1), (85, .bipush 8), (87, .if_icmp .ne 43), (90, .aload_n 0), (91, .getfield 68), (94, .iload_n 2), (95, .iaload), (96, .bipush (-2)), (98, .if_icmp .eq 26), (101, .aload_n 0)]),
  (121, [(102, .bipush 8), (104, .iload_n 2), (105, .aload_n 0), (106, .bipush 40), (108, .iload_n 2), (109, .iadd), (110, .invokevirtual 248), (113, .aload_n 0), (114, .getfield 80), (117, .bipush 8), (119, .iaload), (120, .isub)]),
  (143, [(121, .invokevirtual 281), (124, .iinc 2 1), (127, .goto (-51)), (130, .iconst 0), (131, .istore_n 2), (132, .iload_n 2), (133, .aload_n 0), (134, .getfield 108), (137, .if_icmp .ge 43), (140, .iload_n 1), (141, .iconst 2), (142, .if_icmp .eq 38)]),
  (165, [(145, .iload_n 1), (146, .bipush 8), (148, .if_icmp .eq 32), (151, .aload_n 0), (152, .getfield 9), (155, .iload_n 2), (156, .iaload), (157, .bipush (-2)), (159, .if_icmp .eq 15), (162, .aload_n 0), (163, .iload_n 1), (164, .iload_n 2)]),
  (187, [(165, .aload_n 0), (166, .iload_n 1), (167, .iload_n 2), (168, .invokevirtual 285), (171, .invokevirtual 281), (174, .iinc 2 1), (177, .goto (-45)), (180, .iinc 1 1), (183, .goto (-172)), (186, .return_)])]
theorem clo_X11_tellFaults : zk_okc cX11_tellFaults cl_X11_tellFaults = true := by decide +kernel
def rm_X11_tellFaults : Room := { frames := 5, cells := 0, slots := 0, locals := 117 }
def M_X11_tellFaults : zk_M := (zk_lkc cl_X11_tellFaults, zk_in [11, 19, 76, 132], tb_X11, (none, 0, 0), (zk_lka [], fun _ _ => none, zk_in [], zk_in [], zk_lka []))
theorem MO_X11_tellFaults : zk_MO RX11 cX11_tellFaults (yX11_tellFaults.name = "<init>") M_X11_tellFaults := zk_MO_of clo_X11_tellFaults rfl tbo_X11
theorem TO_X11_tellFaults : zk_TO RX11 cX11_tellFaults rm_X11_tellFaults M_X11_tellFaults := ⟨fun pc h => absurd (zk_in_mem h) List.not_mem_nil, fun pc h => absurd (zk_in_mem h) List.not_mem_nil, fun pc tag h => absurd (zk_lka_mem h) List.not_mem_nil⟩
theorem THo_X11_tellFaults : ∀ pc X, M_X11_tellFaults.2.2.2.2.1 pc = some X → zk_TH RX11 cX11_tellFaults rm_X11_tellFaults pc X := fun pc X h => absurd (zk_lka_mem h) List.not_mem_nil
def cl_X11_faultsNow : List (Nat × List (Nat × Instr)) := [(9, [(0, .aload_n 0), (1, .invokevirtual 288), (4, .aload_n 0), (5, .getfield 278), (8, .ireturn)])]
theorem clo_X11_faultsNow : zk_okc cX11_faultsNow cl_X11_faultsNow = true := by decide +kernel
def rm_X11_faultsNow : Room := { frames := 6, cells := 0, slots := 0, locals := 139 }
def M_X11_faultsNow : zk_M := (zk_lkc cl_X11_faultsNow, zk_in [], tb_X11, (some (.int), 0, 0), (zk_lka [], fun _ _ => none, zk_in [], zk_in [], zk_lka []))
theorem MO_X11_faultsNow : zk_MO RX11 cX11_faultsNow (yX11_faultsNow.name = "<init>") M_X11_faultsNow := zk_MO_of clo_X11_faultsNow rfl tbo_X11
theorem TO_X11_faultsNow : zk_TO RX11 cX11_faultsNow rm_X11_faultsNow M_X11_faultsNow := ⟨fun pc h => absurd (zk_in_mem h) List.not_mem_nil, fun pc h => absurd (zk_in_mem h) List.not_mem_nil, fun pc tag h => absurd (zk_lka_mem h) List.not_mem_nil⟩
theorem THo_X11_faultsNow : ∀ pc X, M_X11_faultsNow.2.2.2.2.1 pc = some X → zk_TH RX11 cX11_faultsNow rm_X11_faultsNow pc X := fun pc X h => absurd (zk_lka_mem h) List.not_mem_nil
def cl_X11_faults : List (Nat × List (Nat × Instr)) := [(9, [(0, .aload_n 0), (1, .aload_n 0), (2, .invokevirtual 291), (5, .invokevirtual 180), (8, .ireturn)])]
theorem clo_X11_faults : zk_okc cX11_faults cl_X11_faults = true := by decide +kernel
def rm_X11_faults : Room := { frames := 7, cells := 0, slots := 0, locals := 159 }
def M_X11_faults : zk_M := (zk_lkc cl_X11_faults, zk_in [], tb_X11, (some (.int), 0, 0), (zk_lka [], fun _ _ => none, zk_in [], zk_in [], zk_lka []))
theorem MO_X11_faults : zk_MO RX11 cX11_faults (yX11_faults.name = "<init>") M_X11_faults := zk_MO_of clo_X11_faults rfl tbo_X11
theorem TO_X11_faults : zk_TO RX11 cX11_faults rm_X11_faults M_X11_faults := ⟨fun pc h => absurd (zk_in_mem h) List.not_mem_nil, fun pc h => absurd (zk_in_mem h) List.not_mem_nil, fun pc tag h => absurd (zk_lka_mem h) List.not_mem_nil⟩
theorem THo_X11_faults : ∀ pc X, M_X11_faults.2.2.2.2.1 pc = some X → zk_TH RX11 cX11_faults rm_X11_faults pc X := fun pc X h => absurd (zk_lka_mem h) List.not_mem_nil
def cl_X11_ofFault : List (Nat × List (Nat × Instr)) := [(20, [(0, .aload_n 0), (1, .iconst 0), (2, .putfield 104), (5, .iload_n 1), (6, .iconst 0), (7, .aload_n 0), (8, .invokevirtual 291), (11, .iconst 1), (12, .isub), (13, .invokestatic 111), (16, .ifCond .eq 16), (19, .aload_n 0)]),
  (38, [(20, .getfield 95), (23, .iconst 3), (24, .iload_n 1), (25, .imul), (26, .iload_n 2), (27, .iadd), (28, .iaload), (29, .goto 8), (32, .aload_n 0), (33, .iconst 1), (34, .invokevirtual 130), (37, .ireturn)])]
theorem clo_X11_ofFault : zk_okc cX11_ofFault cl_X11_ofFault = true := by decide +kernel
def rm_X11_ofFault : Room := { frames := 7, cells := 0, slots := 0, locals := 159 }
def M_X11_ofFault : zk_M := (zk_lkc cl_X11_ofFault, zk_in [], tb_X11, (some (.int), 0, 0), (zk_lka [], fun _ _ => none, zk_in [], zk_in [], zk_lka []))
theorem MO_X11_ofFault : zk_MO RX11 cX11_ofFault (yX11_ofFault.name = "<init>") M_X11_ofFault := zk_MO_of clo_X11_ofFault rfl tbo_X11
theorem TO_X11_ofFault : zk_TO RX11 cX11_ofFault rm_X11_ofFault M_X11_ofFault := ⟨fun pc h => absurd (zk_in_mem h) List.not_mem_nil, fun pc h => absurd (zk_in_mem h) List.not_mem_nil, fun pc tag h => absurd (zk_lka_mem h) List.not_mem_nil⟩
theorem THo_X11_ofFault : ∀ pc X, M_X11_ofFault.2.2.2.2.1 pc = some X → zk_TH RX11 cX11_ofFault rm_X11_ofFault pc X := fun pc X h => absurd (zk_lka_mem h) List.not_mem_nil
def cl_X11_ruleOf : List (Nat × List (Nat × Instr)) := [(7, [(0, .aload_n 0), (1, .iload_n 1), (2, .iconst 0), (3, .invokevirtual 294), (6, .ireturn)])]
theorem clo_X11_ruleOf : zk_okc cX11_ruleOf cl_X11_ruleOf = true := by decide +kernel
def rm_X11_ruleOf : Room := { frames := 8, cells := 0, slots := 0, locals := 181 }
def M_X11_ruleOf : zk_M := (zk_lkc cl_X11_ruleOf, zk_in [], tb_X11, (some (.int), 0, 0), (zk_lka [], fun _ _ => none, zk_in [], zk_in [], zk_lka []))
theorem MO_X11_ruleOf : zk_MO RX11 cX11_ruleOf (yX11_ruleOf.name = "<init>") M_X11_ruleOf := zk_MO_of clo_X11_ruleOf rfl tbo_X11
theorem TO_X11_ruleOf : zk_TO RX11 cX11_ruleOf rm_X11_ruleOf M_X11_ruleOf := ⟨fun pc h => absurd (zk_in_mem h) List.not_mem_nil, fun pc h => absurd (zk_in_mem h) List.not_mem_nil, fun pc tag h => absurd (zk_lka_mem h) List.not_mem_nil⟩
theorem THo_X11_ruleOf : ∀ pc X, M_X11_ruleOf.2.2.2.2.1 pc = some X → zk_TH RX11 cX11_ruleOf rm_X11_ruleOf pc X := fun pc X h => absurd (zk_lka_mem h) List.not_mem_nil
def cl_X11_whereOf : List (Nat × List (Nat × Instr)) := [(7, [(0, .aload_n 0), (1, .iload_n 1), (2, .iconst 1), (3, .invokevirtual 294), (6, .ireturn)])]
theorem clo_X11_whereOf : zk_okc cX11_whereOf cl_X11_whereOf = true := by decide +kernel
def rm_X11_whereOf : Room := { frames := 8, cells := 0, slots := 0, locals := 181 }
def M_X11_whereOf : zk_M := (zk_lkc cl_X11_whereOf, zk_in [], tb_X11, (some (.int), 0, 0), (zk_lka [], fun _ _ => none, zk_in [], zk_in [], zk_lka []))
theorem MO_X11_whereOf : zk_MO RX11 cX11_whereOf (yX11_whereOf.name = "<init>") M_X11_whereOf := zk_MO_of clo_X11_whereOf rfl tbo_X11
theorem TO_X11_whereOf : zk_TO RX11 cX11_whereOf rm_X11_whereOf M_X11_whereOf := ⟨fun pc h => absurd (zk_in_mem h) List.not_mem_nil, fun pc h => absurd (zk_in_mem h) List.not_mem_nil, fun pc tag h => absurd (zk_lka_mem h) List.not_mem_nil⟩
theorem THo_X11_whereOf : ∀ pc X, M_X11_whereOf.2.2.2.2.1 pc = some X → zk_TH RX11 cX11_whereOf rm_X11_whereOf pc X := fun pc X h => absurd (zk_lka_mem h) List.not_mem_nil
def cl_X11_howMuch : List (Nat × List (Nat × Instr)) := [(7, [(0, .aload_n 0), (1, .iload_n 1), (2, .iconst 2), (3, .invokevirtual 294), (6, .ireturn)])]
theorem clo_X11_howMuch : zk_okc cX11_howMuch cl_X11_howMuch = true := by decide +kernel
def rm_X11_howMuch : Room := { frames := 8, cells := 0, slots := 0, locals := 181 }
def M_X11_howMuch : zk_M := (zk_lkc cl_X11_howMuch, zk_in [], tb_X11, (some (.int), 0, 0), (zk_lka [], fun _ _ => none, zk_in [], zk_in [], zk_lka []))
theorem MO_X11_howMuch : zk_MO RX11 cX11_howMuch (yX11_howMuch.name = "<init>") M_X11_howMuch := zk_MO_of clo_X11_howMuch rfl tbo_X11
theorem TO_X11_howMuch : zk_TO RX11 cX11_howMuch rm_X11_howMuch M_X11_howMuch := ⟨fun pc h => absurd (zk_in_mem h) List.not_mem_nil, fun pc h => absurd (zk_in_mem h) List.not_mem_nil, fun pc tag h => absurd (zk_lka_mem h) List.not_mem_nil⟩
theorem THo_X11_howMuch : ∀ pc X, M_X11_howMuch.2.2.2.2.1 pc = some X → zk_TH RX11 cX11_howMuch rm_X11_howMuch pc X := fun pc X h => absurd (zk_lka_mem h) List.not_mem_nil
def cl_X11_broken : List (Nat × List (Nat × Instr)) := [(21, [(0, .aload_n 0), (1, .iconst 0), (2, .putfield 104), (5, .iload_n 1), (6, .iconst 0), (7, .bipush 9), (9, .invokestatic 111), (12, .ifCond .ne 9), (15, .aload_n 0), (16, .iconst 1), (17, .invokevirtual 130), (20, .ireturn)]),
  (39, [(21, .aload_n 0), (22, .invokevirtual 288), (25, .iconst 0), (26, .istore_n 2), (27, .iconst 0), (28, .istore_n 3), (29, .iload_n 3), (30, .aload_n 0), (31, .getfield 278), (34, .if_icmp .ge 29), (37, .iload_n 2), (38, .aload_n 0)]),
  (57, [(39, .getfield 95), (42, .iconst 3), (43, .iload_n 3), (44, .imul), (45, .iaload), (46, .iload_n 1), (47, .if_icmp .ne 7), (50, .iconst 1), (51, .goto 4), (54, .iconst 0), (55, .iadd), (56, .istore_n 2)]),
  (65, [(57, .iinc 3 1), (60, .goto (-31)), (63, .iload_n 2), (64, .ireturn)])]
theorem clo_X11_broken : zk_okc cX11_broken cl_X11_broken = true := by decide +kernel
def rm_X11_broken : Room := { frames := 6, cells := 0, slots := 0, locals := 139 }
def M_X11_broken : zk_M := (zk_lkc cl_X11_broken, zk_in [29], tb_X11, (some (.int), 0, 0), (zk_lka [], fun _ _ => none, zk_in [], zk_in [], zk_lka []))
theorem MO_X11_broken : zk_MO RX11 cX11_broken (yX11_broken.name = "<init>") M_X11_broken := zk_MO_of clo_X11_broken rfl tbo_X11
theorem TO_X11_broken : zk_TO RX11 cX11_broken rm_X11_broken M_X11_broken := ⟨fun pc h => absurd (zk_in_mem h) List.not_mem_nil, fun pc h => absurd (zk_in_mem h) List.not_mem_nil, fun pc tag h => absurd (zk_lka_mem h) List.not_mem_nil⟩
theorem THo_X11_broken : ∀ pc X, M_X11_broken.2.2.2.2.1 pc = some X → zk_TH RX11 cX11_broken rm_X11_broken pc X := fun pc X h => absurd (zk_lka_mem h) List.not_mem_nil
def cl_X11_meanWay : List (Nat × List (Nat × Instr)) := [(16, [(0, .aload_n 0), (1, .iconst 0), (2, .putfield 104), (5, .aload_n 0), (6, .invokevirtual 227), (9, .iconst 0), (10, .istore_n 1), (11, .iconst 0), (12, .istore_n 2), (13, .iconst 0), (14, .istore_n 3), (15, .iload_n 3)]),
  (37, [(16, .aload_n 0), (17, .getfield 108), (20, .if_icmp .ge 56), (23, .aload_n 0), (24, .getfield 9), (27, .iload_n 3), (28, .iaload), (29, .bipush (-2)), (31, .if_icmp .eq 39), (34, .aload_n 0), (35, .iload_n 3), (36, .invokevirtual 230)]),
  (59, [(39, .ifCond .eq 6), (42, .goto 28), (45, .iload_n 1), (46, .aload_n 0), (47, .getfield 28), (50, .iload_n 3), (51, .iaload), (52, .aload_n 0), (53, .getfield 89), (56, .iload_n 3), (57, .iaload), (58, .imul)]),
  (77, [(59, .iadd), (60, .istore_n 1), (61, .iload_n 2), (62, .aload_n 0), (63, .getfield 28), (66, .iload_n 3), (67, .iaload), (68, .iadd), (69, .istore_n 2), (70, .iinc 3 1), (73, .goto (-58)), (76, .iload_n 2)]),
  (90, [(77, .ifCond .ne 7), (80, .dconst 0), (81, .goto 8), (84, .iload_n 1), (85, .i2d), (86, .iload_n 2), (87, .i2d), (88, .ddiv), (89, .dreturn)])]
theorem clo_X11_meanWay : zk_okc cX11_meanWay cl_X11_meanWay = true := by decide +kernel
def rm_X11_meanWay : Room := { frames := 4, cells := 0, slots := 0, locals := 96 }
def M_X11_meanWay : zk_M := (zk_lkc cl_X11_meanWay, zk_in [15], tb_X11, (some (.double), 0, 0), (zk_lka [], fun _ _ => none, zk_in [], zk_in [], zk_lka []))
theorem MO_X11_meanWay : zk_MO RX11 cX11_meanWay (yX11_meanWay.name = "<init>") M_X11_meanWay := zk_MO_of clo_X11_meanWay rfl tbo_X11
theorem TO_X11_meanWay : zk_TO RX11 cX11_meanWay rm_X11_meanWay M_X11_meanWay := ⟨fun pc h => absurd (zk_in_mem h) List.not_mem_nil, fun pc h => absurd (zk_in_mem h) List.not_mem_nil, fun pc tag h => absurd (zk_lka_mem h) List.not_mem_nil⟩
theorem THo_X11_meanWay : ∀ pc X, M_X11_meanWay.2.2.2.2.1 pc = some X → zk_TH RX11 cX11_meanWay rm_X11_meanWay pc X := fun pc X h => absurd (zk_lka_mem h) List.not_mem_nil
def cl_X11_faultsWith : List (Nat × List (Nat × Instr)) := [(20, [(0, .aload_n 0), (1, .iconst 0), (2, .putfield 104), (5, .aload_n 0), (6, .iload_n 1), (7, .invokevirtual 167), (10, .ifCond .ne 9), (13, .aload_n 0), (14, .iconst 1), (15, .invokevirtual 130), (18, .ireturn), (19, .aload_n 0)]),
  (40, [(20, .getfield 50), (23, .iload_n 1), (24, .aload_n 0), (25, .getfield 50), (28, .iload_n 1), (29, .baload), (30, .ifCond .ne 7), (33, .iconst 1), (34, .goto 4), (37, .iconst 0), (38, .bastore), (39, .aload_n 0)]),
  (60, [(40, .invokevirtual 291), (43, .istore_n 2), (44, .aload_n 0), (45, .getfield 50), (48, .iload_n 1), (49, .aload_n 0), (50, .getfield 50), (53, .iload_n 1), (54, .baload), (55, .ifCond .ne 7), (58, .iconst 1), (59, .goto 4)]),
  (66, [(62, .iconst 0), (63, .bastore), (64, .iload_n 2), (65, .ireturn)])]
theorem clo_X11_faultsWith : zk_okc cX11_faultsWith cl_X11_faultsWith = true := by decide +kernel
def rm_X11_faultsWith : Room := { frames := 7, cells := 0, slots := 0, locals := 159 }
def M_X11_faultsWith : zk_M := (zk_lkc cl_X11_faultsWith, zk_in [], tb_X11, (some (.int), 0, 0), (zk_lka [], fun _ _ => none, zk_in [], zk_in [], zk_lka []))
theorem MO_X11_faultsWith : zk_MO RX11 cX11_faultsWith (yX11_faultsWith.name = "<init>") M_X11_faultsWith := zk_MO_of clo_X11_faultsWith rfl tbo_X11
theorem TO_X11_faultsWith : zk_TO RX11 cX11_faultsWith rm_X11_faultsWith M_X11_faultsWith := ⟨fun pc h => absurd (zk_in_mem h) List.not_mem_nil, fun pc h => absurd (zk_in_mem h) List.not_mem_nil, fun pc tag h => absurd (zk_lka_mem h) List.not_mem_nil⟩
theorem THo_X11_faultsWith : ∀ pc X, M_X11_faultsWith.2.2.2.2.1 pc = some X → zk_TH RX11 cX11_faultsWith rm_X11_faultsWith pc X := fun pc X h => absurd (zk_lka_mem h) List.not_mem_nil
def cl_X11_stuck : List (Nat × List (Nat × Instr)) := [(18, [(0, .aload_n 0), (1, .invokevirtual 227), (4, .iconst 0), (5, .istore_n 1), (6, .iconst 0), (7, .istore_n 2), (8, .iload_n 2), (9, .aload_n 0), (10, .getfield 108), (13, .if_icmp .ge 42), (16, .iload_n 1), (17, .aload_n 0)]),
  (39, [(18, .getfield 9), (21, .iload_n 2), (22, .iaload), (23, .bipush (-2)), (25, .if_icmp .eq 21), (28, .aload_n 0), (29, .getfield 92), (32, .iload_n 2), (33, .iaload), (34, .ifCond .ge 12), (37, .aload_n 0), (38, .getfield 28)]),
  (57, [(41, .iload_n 2), (42, .iaload), (43, .goto 4), (46, .iconst 0), (47, .iadd), (48, .istore_n 1), (49, .iinc 2 1), (52, .goto (-44)), (55, .iload_n 1), (56, .ireturn)])]
theorem clo_X11_stuck : zk_okc cX11_stuck cl_X11_stuck = true := by decide +kernel
def rm_X11_stuck : Room := { frames := 4, cells := 0, slots := 0, locals := 96 }
def M_X11_stuck : zk_M := (zk_lkc cl_X11_stuck, zk_in [8], tb_X11, (some (.int), 0, 0), (zk_lka [], fun _ _ => none, zk_in [], zk_in [], zk_lka []))
theorem MO_X11_stuck : zk_MO RX11 cX11_stuck (yX11_stuck.name = "<init>") M_X11_stuck := zk_MO_of clo_X11_stuck rfl tbo_X11
theorem TO_X11_stuck : zk_TO RX11 cX11_stuck rm_X11_stuck M_X11_stuck := ⟨fun pc h => absurd (zk_in_mem h) List.not_mem_nil, fun pc h => absurd (zk_in_mem h) List.not_mem_nil, fun pc tag h => absurd (zk_lka_mem h) List.not_mem_nil⟩
theorem THo_X11_stuck : ∀ pc X, M_X11_stuck.2.2.2.2.1 pc = some X → zk_TH RX11 cX11_stuck rm_X11_stuck pc X := fun pc X h => absurd (zk_lka_mem h) List.not_mem_nil
def cl_X11_lostWithout : List (Nat × List (Nat × Instr)) := [(20, [(0, .aload_n 0), (1, .iconst 0), (2, .putfield 104), (5, .aload_n 0), (6, .iload_n 1), (7, .invokevirtual 167), (10, .ifCond .ne 9), (13, .aload_n 0), (14, .iconst 1), (15, .invokevirtual 130), (18, .ireturn), (19, .aload_n 0)]),
  (40, [(20, .getfield 50), (23, .iload_n 1), (24, .baload), (25, .ifCond .eq 5), (28, .iconst 0), (29, .ireturn), (30, .aload_n 0), (31, .invokevirtual 297), (34, .istore_n 2), (35, .aload_n 0), (36, .getfield 50), (39, .iload_n 1)]),
  (56, [(40, .iconst 1), (41, .bastore), (42, .aload_n 0), (43, .invokevirtual 297), (46, .istore_n 3), (47, .aload_n 0), (48, .getfield 50), (51, .iload_n 1), (52, .iconst 0), (53, .bastore), (54, .iload_n 3), (55, .iload_n 2)]),
  (58, [(56, .isub), (57, .ireturn)])]
theorem clo_X11_lostWithout : zk_okc cX11_lostWithout cl_X11_lostWithout = true := by decide +kernel
def rm_X11_lostWithout : Room := { frames := 5, cells := 0, slots := 0, locals := 118 }
def M_X11_lostWithout : zk_M := (zk_lkc cl_X11_lostWithout, zk_in [], tb_X11, (some (.int), 0, 0), (zk_lka [], fun _ _ => none, zk_in [], zk_in [], zk_lka []))
theorem MO_X11_lostWithout : zk_MO RX11 cX11_lostWithout (yX11_lostWithout.name = "<init>") M_X11_lostWithout := zk_MO_of clo_X11_lostWithout rfl tbo_X11
theorem TO_X11_lostWithout : zk_TO RX11 cX11_lostWithout rm_X11_lostWithout M_X11_lostWithout := ⟨fun pc h => absurd (zk_in_mem h) List.not_mem_nil, fun pc h => absurd (zk_in_mem h) List.not_mem_nil, fun pc tag h => absurd (zk_lka_mem h) List.not_mem_nil⟩
theorem THo_X11_lostWithout : ∀ pc X, M_X11_lostWithout.2.2.2.2.1 pc = some X → zk_TH RX11 cX11_lostWithout rm_X11_lostWithout pc X := fun pc X h => absurd (zk_lka_mem h) List.not_mem_nil
def cl_X11_timeWith : List (Nat × List (Nat × Instr)) := [(20, [(0, .aload_n 0), (1, .iconst 0), (2, .putfield 104), (5, .aload_n 0), (6, .iload_n 1), (7, .invokevirtual 167), (10, .ifCond .ne 9), (13, .aload_n 0), (14, .iconst 1), (15, .invokevirtual 130), (18, .ireturn), (19, .iload_n 2)]),
  (41, [(20, .iconst 1), (21, .bipush 6), (23, .invokestatic 111), (26, .ifCond .ne 9), (29, .aload_n 0), (30, .iconst 2), (31, .invokevirtual 130), (34, .ireturn), (35, .aload_n 0), (36, .invokevirtual 227), (39, .aload_n 0), (40, .iload_n 1)]),
  (46, [(41, .iload_n 2), (42, .invokevirtual 262), (45, .ireturn)])]
theorem clo_X11_timeWith : zk_okc cX11_timeWith cl_X11_timeWith = true := by decide +kernel
def rm_X11_timeWith : Room := { frames := 4, cells := 1, slots := 20, locals := 96 }
def M_X11_timeWith : zk_M := (zk_lkc cl_X11_timeWith, zk_in [], tb_X11, (some (.int), 1, 20), (zk_lka [], fun _ _ => none, zk_in [], zk_in [], zk_lka []))
theorem MO_X11_timeWith : zk_MO RX11 cX11_timeWith (yX11_timeWith.name = "<init>") M_X11_timeWith := zk_MO_of clo_X11_timeWith rfl tbo_X11
theorem TO_X11_timeWith : zk_TO RX11 cX11_timeWith rm_X11_timeWith M_X11_timeWith := ⟨fun pc h => absurd (zk_in_mem h) List.not_mem_nil, fun pc h => absurd (zk_in_mem h) List.not_mem_nil, fun pc tag h => absurd (zk_lka_mem h) List.not_mem_nil⟩
theorem THo_X11_timeWith : ∀ pc X, M_X11_timeWith.2.2.2.2.1 pc = some X → zk_TH RX11 cX11_timeWith rm_X11_timeWith pc X := fun pc X h => absurd (zk_lka_mem h) List.not_mem_nil
def cl_X11_mostNow : List (Nat × List (Nat × Instr)) := [(20, [(0, .sipush 200), (3, .istore_n 2), (4, .aload_n 0), (5, .getfield 80), (8, .iconst 3), (9, .iaload), (10, .ifCond .le 28), (13, .iload_n 2), (14, .aload_n 0), (15, .getfield 19), (18, .iload_n 1), (19, .iaload)]),
  (38, [(20, .aload_n 0), (21, .getfield 22), (24, .iload_n 1), (25, .iaload), (26, .imul), (27, .aload_n 0), (28, .getfield 80), (31, .iconst 3), (32, .iaload), (33, .idiv), (34, .invokestatic 121), (37, .istore_n 2)]),
  (59, [(38, .aload_n 0), (39, .iload_n 1), (40, .invokevirtual 272), (43, .iconst 2), (44, .if_icmp .ge 17), (47, .iload_n 2), (48, .aload_n 0), (49, .getfield 80), (52, .bipush 6), (54, .iaload), (55, .invokestatic 121), (58, .goto 4)]),
  (63, [(61, .iload_n 2), (62, .ireturn)])]
theorem clo_X11_mostNow : zk_okc cX11_mostNow cl_X11_mostNow = true := by decide +kernel
def rm_X11_mostNow : Room := { frames := 3, cells := 0, slots := 0, locals := 68 }
def M_X11_mostNow : zk_M := (zk_lkc cl_X11_mostNow, zk_in [], tb_X11, (some (.int), 0, 0), (zk_lka [], fun _ _ => none, zk_in [], zk_in [], zk_lka [(34, 0), (55, 0)]))
theorem MO_X11_mostNow : zk_MO RX11 cX11_mostNow (yX11_mostNow.name = "<init>") M_X11_mostNow := zk_MO_of clo_X11_mostNow rfl tbo_X11
theorem TO_X11_mostNow : zk_TO RX11 cX11_mostNow rm_X11_mostNow M_X11_mostNow := ⟨fun pc h => absurd (zk_in_mem h) List.not_mem_nil, fun pc h => absurd (zk_in_mem h) List.not_mem_nil, fun pc tag h => by
    have h2 := zk_lka_mem h
    simp only [List.mem_cons, List.not_mem_nil, or_false, Prod.mk.injEq] at h2
    rcases h2 with ⟨rfl, rfl⟩ | ⟨rfl, rfl⟩
    · exact ⟨121, by decide +kernel, zk_wi 1116 (by decide +kernel) rfl, by decide, by decide⟩
    · exact ⟨121, by decide +kernel, zk_wi 1116 (by decide +kernel) rfl, by decide, by decide⟩⟩
theorem THo_X11_mostNow : ∀ pc X, M_X11_mostNow.2.2.2.2.1 pc = some X → zk_TH RX11 cX11_mostNow rm_X11_mostNow pc X := fun pc X h => absurd (zk_lka_mem h) List.not_mem_nil
def cl_X11_mostPeople : List (Nat × List (Nat × Instr)) := [(22, [(0, .aload_n 0), (1, .iconst 0), (2, .putfield 104), (5, .aload_n 0), (6, .iload_n 1), (7, .invokevirtual 137), (10, .ifCond .eq 11), (13, .aload_n 0), (14, .iload_n 1), (15, .invokevirtual 300), (18, .goto 8), (21, .aload_n 0)]),
  (27, [(22, .iconst 1), (23, .invokevirtual 130), (26, .ireturn)])]
theorem clo_X11_mostPeople : zk_okc cX11_mostPeople cl_X11_mostPeople = true := by decide +kernel
def rm_X11_mostPeople : Room := { frames := 4, cells := 0, slots := 0, locals := 90 }
def M_X11_mostPeople : zk_M := (zk_lkc cl_X11_mostPeople, zk_in [], tb_X11, (some (.int), 0, 0), (zk_lka [], fun _ _ => none, zk_in [], zk_in [], zk_lka []))
theorem MO_X11_mostPeople : zk_MO RX11 cX11_mostPeople (yX11_mostPeople.name = "<init>") M_X11_mostPeople := zk_MO_of clo_X11_mostPeople rfl tbo_X11
theorem TO_X11_mostPeople : zk_TO RX11 cX11_mostPeople rm_X11_mostPeople M_X11_mostPeople := ⟨fun pc h => absurd (zk_in_mem h) List.not_mem_nil, fun pc h => absurd (zk_in_mem h) List.not_mem_nil, fun pc tag h => absurd (zk_lka_mem h) List.not_mem_nil⟩
theorem THo_X11_mostPeople : ∀ pc X, M_X11_mostPeople.2.2.2.2.1 pc = some X → zk_TH RX11 cX11_mostPeople rm_X11_mostPeople pc X := fun pc X h => absurd (zk_lka_mem h) List.not_mem_nil
def cl_X11_digest : List (Nat × List (Nat × Instr)) := [(22, [(0, .aload_n 0), (1, .iconst 0), (2, .putfield 104), (5, .aload_n 0), (6, .invokevirtual 288), (9, .ldc2_w 303), (12, .aload_n 0), (13, .invokevirtual 177), (16, .i2l), (17, .ladd), (18, .ldc2_w 305), (21, .lmul)]),
  (42, [(22, .aload_n 0), (23, .invokevirtual 173), (26, .i2l), (27, .ladd), (28, .ldc2_w 305), (31, .lmul), (32, .aload_n 0), (33, .invokevirtual 183), (36, .i2l), (37, .ladd), (38, .ldc2_w 305), (41, .lmul)]),
  (60, [(42, .aload_n 0), (43, .iconst (-1)), (44, .iconst 0), (45, .invokevirtual 262), (48, .i2l), (49, .ladd), (50, .ldc2_w 305), (53, .lmul), (54, .aload_n 0), (55, .iconst 3), (56, .invokevirtual 269), (59, .i2l)]),
  (78, [(60, .ladd), (61, .lstore_n 1), (62, .aload_n 0), (63, .iconst 2), (64, .invokevirtual 265), (67, .astore_n 3), (68, .iconst 0), (69, .istore 4), (71, .iload 4), (73, .aload_n 0), (74, .getfield 108), (77, .if_icmp .ge 127)]),
  (103, [(80, .aload_n 0), (81, .getfield 9), (84, .iload 4), (86, .iaload), (87, .bipush (-2)), (89, .if_icmp .ne 6), (92, .goto 106), (95, .lload_n 1), (96, .ldc2_w 305), (99, .lmul), (100, .iload 4), (102, .i2l)]),
  (124, [(103, .ladd), (104, .ldc2_w 305), (107, .lmul), (108, .aload_n 0), (109, .iload 4), (111, .invokevirtual 230), (114, .ifCond .eq 7), (117, .iconst 1), (118, .goto 4), (121, .iconst 0), (122, .i2l), (123, .ladd)]),
  (144, [(124, .ldc2_w 305), (127, .lmul), (128, .aload_n 0), (129, .iload 4), (131, .invokevirtual 236), (134, .i2l), (135, .ladd), (136, .ldc2_w 305), (139, .lmul), (140, .aload_n 0), (141, .iload 4), (143, .invokevirtual 239)]),
  (163, [(146, .i2l), (147, .ladd), (148, .lstore_n 1), (149, .lload_n 1), (150, .ldc2_w 305), (153, .lmul), (154, .aload_n 0), (155, .iload 4), (157, .invokevirtual 242), (160, .i2l), (161, .ladd), (162, .ldc2_w 305)]),
  (183, [(165, .lmul), (166, .aload_n 0), (167, .getfield 92), (170, .iload 4), (172, .iaload), (173, .i2l), (174, .ladd), (175, .ldc2_w 305), (178, .lmul), (179, .aload_n 3), (180, .iload 4), (182, .iaload)]),
  (202, [(183, .i2l), (184, .ladd), (185, .ldc2_w 305), (188, .lmul), (189, .aload_n 0), (190, .iload 4), (192, .invokevirtual 300), (195, .i2l), (196, .ladd), (197, .lstore_n 1), (198, .iinc 4 1), (201, .goto (-130))]),
  (226, [(204, .iconst 0), (205, .istore 4), (207, .iload 4), (209, .aload_n 0), (210, .getfield 115), (213, .if_icmp .ge 73), (216, .aload_n 0), (217, .getfield 31), (220, .iload 4), (222, .iaload), (223, .bipush (-2)), (225, .if_icmp .eq 55)]),
  (246, [(228, .lload_n 1), (229, .ldc2_w 305), (232, .lmul), (233, .iload 4), (235, .i2l), (236, .ladd), (237, .ldc2_w 305), (240, .lmul), (241, .aload_n 0), (242, .iconst 2), (243, .iload 4), (245, .imul)]),
  (263, [(246, .invokevirtual 245), (249, .i2l), (250, .ladd), (251, .ldc2_w 305), (254, .lmul), (255, .aload_n 0), (256, .iconst 2), (257, .iload 4), (259, .imul), (260, .iconst 1), (261, .iadd), (262, .invokevirtual 245)]),
  (284, [(265, .i2l), (266, .ladd), (267, .ldc2_w 305), (270, .lmul), (271, .aload_n 0), (272, .iload 4), (274, .invokevirtual 248), (277, .i2l), (278, .ladd), (279, .lstore_n 1), (280, .iinc 4 1), (283, .goto (-76))]),
  (308, [(286, .iconst 0), (287, .istore 4), (289, .iload 4), (291, .aload_n 0), (292, .getfield 118), (295, .if_icmp .ge 46), (298, .aload_n 0), (299, .getfield 68), (302, .iload 4), (304, .iaload), (305, .bipush (-2)), (307, .if_icmp .eq 28)]),
  (329, [(310, .lload_n 1), (311, .ldc2_w 305), (314, .lmul), (315, .iload 4), (317, .i2l), (318, .ladd), (319, .ldc2_w 305), (322, .lmul), (323, .aload_n 0), (324, .bipush 40), (326, .iload 4), (328, .iadd)]),
  (351, [(329, .invokevirtual 248), (332, .i2l), (333, .ladd), (334, .lstore_n 1), (335, .iinc 4 1), (338, .goto (-49)), (341, .lload_n 1), (342, .ldc2_w 305), (345, .lmul), (346, .aload_n 0), (347, .getfield 278), (350, .i2l)]),
  (369, [(351, .ladd), (352, .lstore_n 1), (353, .iconst 0), (354, .istore 4), (356, .iload 4), (358, .iconst 3), (359, .aload_n 0), (360, .getfield 278), (363, .imul), (364, .if_icmp .ge 24), (367, .lload_n 1), (368, .ldc2_w 305)]),
  (390, [(371, .lmul), (372, .aload_n 0), (373, .getfield 95), (376, .iload 4), (378, .iaload), (379, .i2l), (380, .ladd), (381, .lstore_n 1), (382, .iinc 4 1), (385, .goto (-29)), (388, .lload_n 1), (389, .lreturn)])]
theorem clo_X11_digest : zk_okc cX11_digest cl_X11_digest = true := by decide +kernel
def rm_X11_digest : Room := { frames := 6, cells := 3, slots := 60, locals := 139 }
def M_X11_digest : zk_M := (zk_lkc cl_X11_digest, zk_in [71, 207, 289, 356], tb_X11, (some (.long), 3, 60), (zk_lka [], fun _ _ => none, zk_in [], zk_in [], zk_lka []))
theorem MO_X11_digest : zk_MO RX11 cX11_digest (yX11_digest.name = "<init>") M_X11_digest := zk_MO_of clo_X11_digest rfl tbo_X11
theorem TO_X11_digest : zk_TO RX11 cX11_digest rm_X11_digest M_X11_digest := ⟨fun pc h => absurd (zk_in_mem h) List.not_mem_nil, fun pc h => absurd (zk_in_mem h) List.not_mem_nil, fun pc tag h => absurd (zk_lka_mem h) List.not_mem_nil⟩
theorem THo_X11_digest : ∀ pc X, M_X11_digest.2.2.2.2.1 pc = some X → zk_TH RX11 cX11_digest rm_X11_digest pc X := fun pc X h => absurd (zk_lka_mem h) List.not_mem_nil
def cl_L_addRoom : List (Nat × List (Nat × Instr)) := [(18, [(0, .aload 7), (2, .iconst 0), (3, .aload_n 0), (4, .iload_n 1), (5, .iload_n 2), (6, .iload_n 3), (7, .iload 4), (9, .iload 5), (11, .iload 6), (13, .invokevirtual 7), (16, .i2l), (17, .lastore)]),
  (31, [(18, .goto 11), (21, .astore 8), (23, .iconst 1), (24, .ireturn), (25, .astore 8), (27, .iconst 2), (28, .ireturn), (29, .iconst 0), (30, .ireturn)])]
theorem clo_L_addRoom : zk_okc cL_addRoom cl_L_addRoom = true := by decide +kernel
def rm_L_addRoom : Room := { frames := 7, cells := 4, slots := 26, locals := 110 }
def M_L_addRoom : zk_M := (zk_lkc cl_L_addRoom, zk_in [], tb_L, (some (.int), 4, 26), (zk_lka [], fun pc X => match Nat.beq pc 13 with
  | true => if X = "java/lang/IllegalArgumentException" then some 21 else if X = "java/lang/IllegalStateException" then some 25 else none
  | false => none, zk_in [], zk_in [], zk_lka []))
theorem MO_L_addRoom : zk_MO RL cL_addRoom (yL_addRoom.name = "<init>") M_L_addRoom := zk_MO_of clo_L_addRoom rfl tbo_L
theorem TO_L_addRoom : zk_TO RL cL_addRoom rm_L_addRoom M_L_addRoom := ⟨fun pc h => absurd (zk_in_mem h) List.not_mem_nil, fun pc h => absurd (zk_in_mem h) List.not_mem_nil, fun pc tag h => absurd (zk_lka_mem h) List.not_mem_nil⟩
theorem THo_L_addRoom : ∀ pc X, M_L_addRoom.2.2.2.2.1 pc = some X → zk_TH RL cL_addRoom rm_L_addRoom pc X := fun pc X h => absurd (zk_lka_mem h) List.not_mem_nil
def cl_L_removeRoom : List (Nat × List (Nat × Instr)) := [(16, [(0, .aload_n 2), (1, .iconst 0), (2, .aload_n 0), (3, .iload_n 1), (4, .invokevirtual 17), (7, .i2l), (8, .lastore), (9, .goto 6), (12, .astore_n 3), (13, .iconst 1), (14, .ireturn), (15, .iconst 0)]),
  (17, [(16, .ireturn)])]
theorem clo_L_removeRoom : zk_okc cL_removeRoom cl_L_removeRoom = true := by decide +kernel
def rm_L_removeRoom : Room := { frames := 8, cells := 1, slots := 6, locals := 126 }
def M_L_removeRoom : zk_M := (zk_lkc cl_L_removeRoom, zk_in [], tb_L, (some (.int), 1, 6), (zk_lka [], fun pc X => match Nat.beq pc 4 with
  | true => if X = "java/lang/IndexOutOfBoundsException" then some 12 else none
  | false => none, zk_in [], zk_in [], zk_lka []))
theorem MO_L_removeRoom : zk_MO RL cL_removeRoom (yL_removeRoom.name = "<init>") M_L_removeRoom := zk_MO_of clo_L_removeRoom rfl tbo_L
theorem TO_L_removeRoom : zk_TO RL cL_removeRoom rm_L_removeRoom M_L_removeRoom := ⟨fun pc h => absurd (zk_in_mem h) List.not_mem_nil, fun pc h => absurd (zk_in_mem h) List.not_mem_nil, fun pc tag h => absurd (zk_lka_mem h) List.not_mem_nil⟩
theorem THo_L_removeRoom : ∀ pc X, M_L_removeRoom.2.2.2.2.1 pc = some X → zk_TH RL cL_removeRoom rm_L_removeRoom pc X := fun pc X h => absurd (zk_lka_mem h) List.not_mem_nil
def cl_L_setPeople : List (Nat × List (Nat × Instr)) := [(17, [(0, .aload_n 3), (1, .iconst 0), (2, .aload_n 0), (3, .iload_n 1), (4, .iload_n 2), (5, .invokevirtual 23), (8, .i2l), (9, .lastore), (10, .goto 11), (13, .astore 4), (15, .iconst 1), (16, .ireturn)]),
  (23, [(17, .astore 4), (19, .iconst 2), (20, .ireturn), (21, .iconst 0), (22, .ireturn)])]
theorem clo_L_setPeople : zk_okc cL_setPeople cl_L_setPeople = true := by decide +kernel
def rm_L_setPeople : Room := { frames := 8, cells := 2, slots := 12, locals := 128 }
def M_L_setPeople : zk_M := (zk_lkc cl_L_setPeople, zk_in [], tb_L, (some (.int), 2, 12), (zk_lka [], fun pc X => match Nat.beq pc 5 with
  | true => if X = "java/lang/IndexOutOfBoundsException" then some 13 else if X = "java/lang/IllegalArgumentException" then some 17 else none
  | false => none, zk_in [], zk_in [], zk_lka []))
theorem MO_L_setPeople : zk_MO RL cL_setPeople (yL_setPeople.name = "<init>") M_L_setPeople := zk_MO_of clo_L_setPeople rfl tbo_L
theorem TO_L_setPeople : zk_TO RL cL_setPeople rm_L_setPeople M_L_setPeople := ⟨fun pc h => absurd (zk_in_mem h) List.not_mem_nil, fun pc h => absurd (zk_in_mem h) List.not_mem_nil, fun pc tag h => absurd (zk_lka_mem h) List.not_mem_nil⟩
theorem THo_L_setPeople : ∀ pc X, M_L_setPeople.2.2.2.2.1 pc = some X → zk_TH RL cL_setPeople rm_L_setPeople pc X := fun pc X h => absurd (zk_lka_mem h) List.not_mem_nil
def cl_L_addDoor : List (Nat × List (Nat × Instr)) := [(18, [(0, .aload 7), (2, .iconst 0), (3, .aload_n 0), (4, .iload_n 1), (5, .iload_n 2), (6, .iload_n 3), (7, .iload 4), (9, .iload 5), (11, .iload 6), (13, .invokevirtual 27), (16, .i2l), (17, .lastore)]),
  (35, [(18, .goto 15), (21, .astore 8), (23, .iconst 1), (24, .ireturn), (25, .astore 8), (27, .iconst 2), (28, .ireturn), (29, .astore 8), (31, .iconst 3), (32, .ireturn), (33, .iconst 0), (34, .ireturn)])]
theorem clo_L_addDoor : zk_okc cL_addDoor cl_L_addDoor = true := by decide +kernel
def rm_L_addDoor : Room := { frames := 8, cells := 7, slots := 43, locals := 143 }
def M_L_addDoor : zk_M := (zk_lkc cl_L_addDoor, zk_in [], tb_L, (some (.int), 7, 43), (zk_lka [], fun pc X => match Nat.beq pc 13 with
  | true => if X = "java/lang/IndexOutOfBoundsException" then some 21 else if X = "java/lang/IllegalArgumentException" then some 25 else if X = "java/lang/IllegalStateException" then some 29 else none
  | false => none, zk_in [], zk_in [], zk_lka []))
theorem MO_L_addDoor : zk_MO RL cL_addDoor (yL_addDoor.name = "<init>") M_L_addDoor := zk_MO_of clo_L_addDoor rfl tbo_L
theorem TO_L_addDoor : zk_TO RL cL_addDoor rm_L_addDoor M_L_addDoor := ⟨fun pc h => absurd (zk_in_mem h) List.not_mem_nil, fun pc h => absurd (zk_in_mem h) List.not_mem_nil, fun pc tag h => absurd (zk_lka_mem h) List.not_mem_nil⟩
theorem THo_L_addDoor : ∀ pc X, M_L_addDoor.2.2.2.2.1 pc = some X → zk_TH RL cL_addDoor rm_L_addDoor pc X := fun pc X h => absurd (zk_lka_mem h) List.not_mem_nil
def cl_L_addWindow : List (Nat × List (Nat × Instr)) := [(17, [(0, .aload 6), (2, .iconst 0), (3, .aload_n 0), (4, .iload_n 1), (5, .iload_n 2), (6, .iload_n 3), (7, .iload 4), (9, .iload 5), (11, .invokevirtual 31), (14, .i2l), (15, .lastore), (16, .goto 15)]),
  (33, [(19, .astore 7), (21, .iconst 1), (22, .ireturn), (23, .astore 7), (25, .iconst 2), (26, .ireturn), (27, .astore 7), (29, .iconst 3), (30, .ireturn), (31, .iconst 0), (32, .ireturn)])]
theorem clo_L_addWindow : zk_okc cL_addWindow cl_L_addWindow = true := by decide +kernel
def rm_L_addWindow : Room := { frames := 8, cells := 6, slots := 31, locals := 141 }
def M_L_addWindow : zk_M := (zk_lkc cl_L_addWindow, zk_in [], tb_L, (some (.int), 6, 31), (zk_lka [], fun pc X => match Nat.beq pc 11 with
  | true => if X = "java/lang/IndexOutOfBoundsException" then some 19 else if X = "java/lang/IllegalArgumentException" then some 23 else if X = "java/lang/IllegalStateException" then some 27 else none
  | false => none, zk_in [], zk_in [], zk_lka []))
theorem MO_L_addWindow : zk_MO RL cL_addWindow (yL_addWindow.name = "<init>") M_L_addWindow := zk_MO_of clo_L_addWindow rfl tbo_L
theorem TO_L_addWindow : zk_TO RL cL_addWindow rm_L_addWindow M_L_addWindow := ⟨fun pc h => absurd (zk_in_mem h) List.not_mem_nil, fun pc h => absurd (zk_in_mem h) List.not_mem_nil, fun pc tag h => absurd (zk_lka_mem h) List.not_mem_nil⟩
theorem THo_L_addWindow : ∀ pc X, M_L_addWindow.2.2.2.2.1 pc = some X → zk_TH RL cL_addWindow rm_L_addWindow pc X := fun pc X h => absurd (zk_lka_mem h) List.not_mem_nil
def cl_L_addStairs : List (Nat × List (Nat × Instr)) := [(18, [(0, .aload 5), (2, .iconst 0), (3, .aload_n 0), (4, .iload_n 1), (5, .iload_n 2), (6, .iload_n 3), (7, .iload 4), (9, .invokevirtual 35), (12, .i2l), (13, .lastore), (14, .goto 15), (17, .astore 6)]),
  (31, [(19, .iconst 1), (20, .ireturn), (21, .astore 6), (23, .iconst 2), (24, .ireturn), (25, .astore 6), (27, .iconst 3), (28, .ireturn), (29, .iconst 0), (30, .ireturn)])]
theorem clo_L_addStairs : zk_okc cL_addStairs cl_L_addStairs = true := by decide +kernel
def rm_L_addStairs : Room := { frames := 8, cells := 5, slots := 31, locals := 131 }
def M_L_addStairs : zk_M := (zk_lkc cl_L_addStairs, zk_in [], tb_L, (some (.int), 5, 31), (zk_lka [], fun pc X => match Nat.beq pc 9 with
  | true => if X = "java/lang/IndexOutOfBoundsException" then some 17 else if X = "java/lang/IllegalArgumentException" then some 21 else if X = "java/lang/IllegalStateException" then some 25 else none
  | false => none, zk_in [], zk_in [], zk_lka []))
theorem MO_L_addStairs : zk_MO RL cL_addStairs (yL_addStairs.name = "<init>") M_L_addStairs := zk_MO_of clo_L_addStairs rfl tbo_L
theorem TO_L_addStairs : zk_TO RL cL_addStairs rm_L_addStairs M_L_addStairs := ⟨fun pc h => absurd (zk_in_mem h) List.not_mem_nil, fun pc h => absurd (zk_in_mem h) List.not_mem_nil, fun pc tag h => absurd (zk_lka_mem h) List.not_mem_nil⟩
theorem THo_L_addStairs : ∀ pc X, M_L_addStairs.2.2.2.2.1 pc = some X → zk_TH RL cL_addStairs rm_L_addStairs pc X := fun pc X h => absurd (zk_lka_mem h) List.not_mem_nil
def cl_L_shut : List (Nat × List (Nat × Instr)) := [(18, [(0, .aload_n 3), (1, .iconst 0), (2, .aload_n 0), (3, .iload_n 1), (4, .iload_n 2), (5, .invokevirtual 39), (8, .ifCond .eq 7), (11, .lconst 1), (12, .goto 4), (15, .lconst 0), (16, .lastore), (17, .goto 7)]),
  (26, [(20, .astore 4), (22, .iconst 1), (23, .ireturn), (24, .iconst 0), (25, .ireturn)])]
theorem clo_L_shut : zk_okc cL_shut cl_L_shut = true := by decide +kernel
def rm_L_shut : Room := { frames := 8, cells := 1, slots := 6, locals := 128 }
def M_L_shut : zk_M := (zk_lkc cl_L_shut, zk_in [], tb_L, (some (.int), 1, 6), (zk_lka [], fun pc X => match Nat.beq pc 5 with
  | true => if X = "java/lang/IndexOutOfBoundsException" then some 20 else none
  | false => none, zk_in [], zk_in [], zk_lka []))
theorem MO_L_shut : zk_MO RL cL_shut (yL_shut.name = "<init>") M_L_shut := zk_MO_of clo_L_shut rfl tbo_L
theorem TO_L_shut : zk_TO RL cL_shut rm_L_shut M_L_shut := ⟨fun pc h => absurd (zk_in_mem h) List.not_mem_nil, fun pc h => absurd (zk_in_mem h) List.not_mem_nil, fun pc tag h => absurd (zk_lka_mem h) List.not_mem_nil⟩
theorem THo_L_shut : ∀ pc X, M_L_shut.2.2.2.2.1 pc = some X → zk_TH RL cL_shut rm_L_shut pc X := fun pc X h => absurd (zk_lka_mem h) List.not_mem_nil
def cl_L_removeDoor : List (Nat × List (Nat × Instr)) := [(16, [(0, .aload_n 2), (1, .iconst 0), (2, .aload_n 0), (3, .iload_n 1), (4, .invokevirtual 43), (7, .i2l), (8, .lastore), (9, .goto 6), (12, .astore_n 3), (13, .iconst 1), (14, .ireturn), (15, .iconst 0)]),
  (17, [(16, .ireturn)])]
theorem clo_L_removeDoor : zk_okc cL_removeDoor cl_L_removeDoor = true := by decide +kernel
def rm_L_removeDoor : Room := { frames := 8, cells := 1, slots := 6, locals := 125 }
def M_L_removeDoor : zk_M := (zk_lkc cl_L_removeDoor, zk_in [], tb_L, (some (.int), 1, 6), (zk_lka [], fun pc X => match Nat.beq pc 4 with
  | true => if X = "java/lang/IndexOutOfBoundsException" then some 12 else none
  | false => none, zk_in [], zk_in [], zk_lka []))
theorem MO_L_removeDoor : zk_MO RL cL_removeDoor (yL_removeDoor.name = "<init>") M_L_removeDoor := zk_MO_of clo_L_removeDoor rfl tbo_L
theorem TO_L_removeDoor : zk_TO RL cL_removeDoor rm_L_removeDoor M_L_removeDoor := ⟨fun pc h => absurd (zk_in_mem h) List.not_mem_nil, fun pc h => absurd (zk_in_mem h) List.not_mem_nil, fun pc tag h => absurd (zk_lka_mem h) List.not_mem_nil⟩
theorem THo_L_removeDoor : ∀ pc X, M_L_removeDoor.2.2.2.2.1 pc = some X → zk_TH RL cL_removeDoor rm_L_removeDoor pc X := fun pc X h => absurd (zk_lka_mem h) List.not_mem_nil
def cl_L_setLimit : List (Nat × List (Nat × Instr)) := [(17, [(0, .aload_n 3), (1, .iconst 0), (2, .aload_n 0), (3, .iload_n 1), (4, .iload_n 2), (5, .invokevirtual 46), (8, .i2l), (9, .lastore), (10, .goto 11), (13, .astore 4), (15, .iconst 1), (16, .ireturn)]),
  (23, [(17, .astore 4), (19, .iconst 2), (20, .ireturn), (21, .iconst 0), (22, .ireturn)])]
theorem clo_L_setLimit : zk_okc cL_setLimit cl_L_setLimit = true := by decide +kernel
def rm_L_setLimit : Room := { frames := 7, cells := 2, slots := 12, locals := 105 }
def M_L_setLimit : zk_M := (zk_lkc cl_L_setLimit, zk_in [], tb_L, (some (.int), 2, 12), (zk_lka [], fun pc X => match Nat.beq pc 5 with
  | true => if X = "java/lang/IndexOutOfBoundsException" then some 13 else if X = "java/lang/IllegalArgumentException" then some 17 else none
  | false => none, zk_in [], zk_in [], zk_lka []))
theorem MO_L_setLimit : zk_MO RL cL_setLimit (yL_setLimit.name = "<init>") M_L_setLimit := zk_MO_of clo_L_setLimit rfl tbo_L
theorem TO_L_setLimit : zk_TO RL cL_setLimit rm_L_setLimit M_L_setLimit := ⟨fun pc h => absurd (zk_in_mem h) List.not_mem_nil, fun pc h => absurd (zk_in_mem h) List.not_mem_nil, fun pc tag h => absurd (zk_lka_mem h) List.not_mem_nil⟩
theorem THo_L_setLimit : ∀ pc X, M_L_setLimit.2.2.2.2.1 pc = some X → zk_TH RL cL_setLimit rm_L_setLimit pc X := fun pc X h => absurd (zk_lka_mem h) List.not_mem_nil
def cl_L_roomAt : List (Nat × List (Nat × Instr)) := [(18, [(0, .aload 4), (2, .iconst 0), (3, .aload_n 0), (4, .iload_n 1), (5, .iload_n 2), (6, .iload_n 3), (7, .invokevirtual 49), (10, .i2l), (11, .lastore), (12, .goto 7), (15, .astore 5), (17, .iconst 1)]),
  (21, [(18, .ireturn), (19, .iconst 0), (20, .ireturn)])]
theorem clo_L_roomAt : zk_okc cL_roomAt cl_L_roomAt = true := by decide +kernel
def rm_L_roomAt : Room := { frames := 7, cells := 1, slots := 6, locals := 109 }
def M_L_roomAt : zk_M := (zk_lkc cl_L_roomAt, zk_in [], tb_L, (some (.int), 1, 6), (zk_lka [], fun pc X => match Nat.beq pc 7 with
  | true => if X = "java/lang/IllegalArgumentException" then some 15 else none
  | false => none, zk_in [], zk_in [], zk_lka []))
theorem MO_L_roomAt : zk_MO RL cL_roomAt (yL_roomAt.name = "<init>") M_L_roomAt := zk_MO_of clo_L_roomAt rfl tbo_L
theorem TO_L_roomAt : zk_TO RL cL_roomAt rm_L_roomAt M_L_roomAt := ⟨fun pc h => absurd (zk_in_mem h) List.not_mem_nil, fun pc h => absurd (zk_in_mem h) List.not_mem_nil, fun pc tag h => absurd (zk_lka_mem h) List.not_mem_nil⟩
theorem THo_L_roomAt : ∀ pc X, M_L_roomAt.2.2.2.2.1 pc = some X → zk_TH RL cL_roomAt rm_L_roomAt pc X := fun pc X h => absurd (zk_lka_mem h) List.not_mem_nil
def cl_L_areJoined : List (Nat × List (Nat × Instr)) := [(18, [(0, .aload_n 3), (1, .iconst 0), (2, .aload_n 0), (3, .iload_n 1), (4, .iload_n 2), (5, .invokevirtual 53), (8, .ifCond .eq 7), (11, .lconst 1), (12, .goto 4), (15, .lconst 0), (16, .lastore), (17, .goto 7)]),
  (26, [(20, .astore 4), (22, .iconst 1), (23, .ireturn), (24, .iconst 0), (25, .ireturn)])]
theorem clo_L_areJoined : zk_okc cL_areJoined cl_L_areJoined = true := by decide +kernel
def rm_L_areJoined : Room := { frames := 8, cells := 2, slots := 12, locals := 132 }
def M_L_areJoined : zk_M := (zk_lkc cl_L_areJoined, zk_in [], tb_L, (some (.int), 2, 12), (zk_lka [], fun pc X => match Nat.beq pc 5 with
  | true => if X = "java/lang/IndexOutOfBoundsException" then some 20 else none
  | false => none, zk_in [], zk_in [], zk_lka []))
theorem MO_L_areJoined : zk_MO RL cL_areJoined (yL_areJoined.name = "<init>") M_L_areJoined := zk_MO_of clo_L_areJoined rfl tbo_L
theorem TO_L_areJoined : zk_TO RL cL_areJoined rm_L_areJoined M_L_areJoined := ⟨fun pc h => absurd (zk_in_mem h) List.not_mem_nil, fun pc h => absurd (zk_in_mem h) List.not_mem_nil, fun pc tag h => absurd (zk_lka_mem h) List.not_mem_nil⟩
theorem THo_L_areJoined : ∀ pc X, M_L_areJoined.2.2.2.2.1 pc = some X → zk_TH RL cL_areJoined rm_L_areJoined pc X := fun pc X h => absurd (zk_lka_mem h) List.not_mem_nil
def cl_L_isLost : List (Nat × List (Nat × Instr)) := [(20, [(0, .aload_n 2), (1, .iconst 0), (2, .aload_n 0), (3, .iload_n 1), (4, .invokevirtual 57), (7, .ifCond .eq 7), (10, .lconst 1), (11, .goto 4), (14, .lconst 0), (15, .lastore), (16, .goto 6), (19, .astore_n 3)]),
  (24, [(20, .iconst 1), (21, .ireturn), (22, .iconst 0), (23, .ireturn)])]
theorem clo_L_isLost : zk_okc cL_isLost cl_L_isLost = true := by decide +kernel
def rm_L_isLost : Room := { frames := 8, cells := 1, slots := 6, locals := 172 }
def M_L_isLost : zk_M := (zk_lkc cl_L_isLost, zk_in [], tb_L, (some (.int), 1, 6), (zk_lka [], fun pc X => match Nat.beq pc 4 with
  | true => if X = "java/lang/IndexOutOfBoundsException" then some 19 else none
  | false => none, zk_in [], zk_in [], zk_lka []))
theorem MO_L_isLost : zk_MO RL cL_isLost (yL_isLost.name = "<init>") M_L_isLost := zk_MO_of clo_L_isLost rfl tbo_L
theorem TO_L_isLost : zk_TO RL cL_isLost rm_L_isLost M_L_isLost := ⟨fun pc h => absurd (zk_in_mem h) List.not_mem_nil, fun pc h => absurd (zk_in_mem h) List.not_mem_nil, fun pc tag h => absurd (zk_lka_mem h) List.not_mem_nil⟩
theorem THo_L_isLost : ∀ pc X, M_L_isLost.2.2.2.2.1 pc = some X → zk_TH RL cL_isLost rm_L_isLost pc X := fun pc X h => absurd (zk_lka_mem h) List.not_mem_nil
def cl_L_farWay : List (Nat × List (Nat × Instr)) := [(16, [(0, .aload_n 2), (1, .iconst 0), (2, .aload_n 0), (3, .iload_n 1), (4, .invokevirtual 61), (7, .i2l), (8, .lastore), (9, .goto 6), (12, .astore_n 3), (13, .iconst 1), (14, .ireturn), (15, .iconst 0)]),
  (17, [(16, .ireturn)])]
theorem clo_L_farWay : zk_okc cL_farWay cl_L_farWay = true := by decide +kernel
def rm_L_farWay : Room := { frames := 8, cells := 1, slots := 6, locals := 172 }
def M_L_farWay : zk_M := (zk_lkc cl_L_farWay, zk_in [], tb_L, (some (.int), 1, 6), (zk_lka [], fun pc X => match Nat.beq pc 4 with
  | true => if X = "java/lang/IndexOutOfBoundsException" then some 12 else none
  | false => none, zk_in [], zk_in [], zk_lka []))
theorem MO_L_farWay : zk_MO RL cL_farWay (yL_farWay.name = "<init>") M_L_farWay := zk_MO_of clo_L_farWay rfl tbo_L
theorem TO_L_farWay : zk_TO RL cL_farWay rm_L_farWay M_L_farWay := ⟨fun pc h => absurd (zk_in_mem h) List.not_mem_nil, fun pc h => absurd (zk_in_mem h) List.not_mem_nil, fun pc tag h => absurd (zk_lka_mem h) List.not_mem_nil⟩
theorem THo_L_farWay : ∀ pc X, M_L_farWay.2.2.2.2.1 pc = some X → zk_TH RL cL_farWay rm_L_farWay pc X := fun pc X h => absurd (zk_lka_mem h) List.not_mem_nil
def cl_L_leaving : List (Nat × List (Nat × Instr)) := [(16, [(0, .aload_n 2), (1, .iconst 0), (2, .aload_n 0), (3, .iload_n 1), (4, .invokevirtual 64), (7, .i2l), (8, .lastore), (9, .goto 6), (12, .astore_n 3), (13, .iconst 1), (14, .ireturn), (15, .iconst 0)]),
  (17, [(16, .ireturn)])]
theorem clo_L_leaving : zk_okc cL_leaving cl_L_leaving = true := by decide +kernel
def rm_L_leaving : Room := { frames := 8, cells := 1, slots := 6, locals := 172 }
def M_L_leaving : zk_M := (zk_lkc cl_L_leaving, zk_in [], tb_L, (some (.int), 1, 6), (zk_lka [], fun pc X => match Nat.beq pc 4 with
  | true => if X = "java/lang/IndexOutOfBoundsException" then some 12 else none
  | false => none, zk_in [], zk_in [], zk_lka []))
theorem MO_L_leaving : zk_MO RL cL_leaving (yL_leaving.name = "<init>") M_L_leaving := zk_MO_of clo_L_leaving rfl tbo_L
theorem TO_L_leaving : zk_TO RL cL_leaving rm_L_leaving M_L_leaving := ⟨fun pc h => absurd (zk_in_mem h) List.not_mem_nil, fun pc h => absurd (zk_in_mem h) List.not_mem_nil, fun pc tag h => absurd (zk_lka_mem h) List.not_mem_nil⟩
theorem THo_L_leaving : ∀ pc X, M_L_leaving.2.2.2.2.1 pc = some X → zk_TH RL cL_leaving rm_L_leaving pc X := fun pc X h => absurd (zk_lka_mem h) List.not_mem_nil
def cl_L_middleWay : List (Nat × List (Nat × Instr)) := [(16, [(0, .aload_n 2), (1, .iconst 0), (2, .aload_n 0), (3, .iload_n 1), (4, .invokevirtual 67), (7, .i2l), (8, .lastore), (9, .goto 6), (12, .astore_n 3), (13, .iconst 1), (14, .ireturn), (15, .iconst 0)]),
  (17, [(16, .ireturn)])]
theorem clo_L_middleWay : zk_okc cL_middleWay cl_L_middleWay = true := by decide +kernel
def rm_L_middleWay : Room := { frames := 8, cells := 1, slots := 6, locals := 172 }
def M_L_middleWay : zk_M := (zk_lkc cl_L_middleWay, zk_in [], tb_L, (some (.int), 1, 6), (zk_lka [], fun pc X => match Nat.beq pc 4 with
  | true => if X = "java/lang/IndexOutOfBoundsException" then some 12 else none
  | false => none, zk_in [], zk_in [], zk_lka []))
theorem MO_L_middleWay : zk_MO RL cL_middleWay (yL_middleWay.name = "<init>") M_L_middleWay := zk_MO_of clo_L_middleWay rfl tbo_L
theorem TO_L_middleWay : zk_TO RL cL_middleWay rm_L_middleWay M_L_middleWay := ⟨fun pc h => absurd (zk_in_mem h) List.not_mem_nil, fun pc h => absurd (zk_in_mem h) List.not_mem_nil, fun pc tag h => absurd (zk_lka_mem h) List.not_mem_nil⟩
theorem THo_L_middleWay : ∀ pc X, M_L_middleWay.2.2.2.2.1 pc = some X → zk_TH RL cL_middleWay rm_L_middleWay pc X := fun pc X h => absurd (zk_lka_mem h) List.not_mem_nil
def cl_L_depth : List (Nat × List (Nat × Instr)) := [(16, [(0, .aload_n 2), (1, .iconst 0), (2, .aload_n 0), (3, .iload_n 1), (4, .invokevirtual 70), (7, .i2l), (8, .lastore), (9, .goto 6), (12, .astore_n 3), (13, .iconst 1), (14, .ireturn), (15, .iconst 0)]),
  (17, [(16, .ireturn)])]
theorem clo_L_depth : zk_okc cL_depth cl_L_depth = true := by decide +kernel
def rm_L_depth : Room := { frames := 8, cells := 1, slots := 6, locals := 172 }
def M_L_depth : zk_M := (zk_lkc cl_L_depth, zk_in [], tb_L, (some (.int), 1, 6), (zk_lka [], fun pc X => match Nat.beq pc 4 with
  | true => if X = "java/lang/IndexOutOfBoundsException" then some 12 else none
  | false => none, zk_in [], zk_in [], zk_lka []))
theorem MO_L_depth : zk_MO RL cL_depth (yL_depth.name = "<init>") M_L_depth := zk_MO_of clo_L_depth rfl tbo_L
theorem TO_L_depth : zk_TO RL cL_depth rm_L_depth M_L_depth := ⟨fun pc h => absurd (zk_in_mem h) List.not_mem_nil, fun pc h => absurd (zk_in_mem h) List.not_mem_nil, fun pc tag h => absurd (zk_lka_mem h) List.not_mem_nil⟩
theorem THo_L_depth : ∀ pc X, M_L_depth.2.2.2.2.1 pc = some X → zk_TH RL cL_depth rm_L_depth pc X := fun pc X h => absurd (zk_lka_mem h) List.not_mem_nil
def cl_L_way : List (Nat × List (Nat × Instr)) := [(17, [(0, .aload_n 3), (1, .iconst 0), (2, .aload_n 0), (3, .iload_n 1), (4, .iload_n 2), (5, .invokevirtual 73), (8, .i2l), (9, .lastore), (10, .goto 7), (13, .astore 4), (15, .iconst 1), (16, .ireturn)]),
  (19, [(17, .iconst 0), (18, .ireturn)])]
theorem clo_L_way : zk_okc cL_way cl_L_way = true := by decide +kernel
def rm_L_way : Room := { frames := 8, cells := 1, slots := 6, locals := 172 }
def M_L_way : zk_M := (zk_lkc cl_L_way, zk_in [], tb_L, (some (.int), 1, 6), (zk_lka [], fun pc X => match Nat.beq pc 5 with
  | true => if X = "java/lang/IndexOutOfBoundsException" then some 13 else none
  | false => none, zk_in [], zk_in [], zk_lka []))
theorem MO_L_way : zk_MO RL cL_way (yL_way.name = "<init>") M_L_way := zk_MO_of clo_L_way rfl tbo_L
theorem TO_L_way : zk_TO RL cL_way rm_L_way M_L_way := ⟨fun pc h => absurd (zk_in_mem h) List.not_mem_nil, fun pc h => absurd (zk_in_mem h) List.not_mem_nil, fun pc tag h => absurd (zk_lka_mem h) List.not_mem_nil⟩
theorem THo_L_way : ∀ pc X, M_L_way.2.2.2.2.1 pc = some X → zk_TH RL cL_way rm_L_way pc X := fun pc X h => absurd (zk_lka_mem h) List.not_mem_nil
def cl_L_load : List (Nat × List (Nat × Instr)) := [(16, [(0, .aload_n 2), (1, .iconst 0), (2, .aload_n 0), (3, .iload_n 1), (4, .invokevirtual 77), (7, .i2l), (8, .lastore), (9, .goto 6), (12, .astore_n 3), (13, .iconst 1), (14, .ireturn), (15, .iconst 0)]),
  (17, [(16, .ireturn)])]
theorem clo_L_load : zk_okc cL_load cl_L_load = true := by decide +kernel
def rm_L_load : Room := { frames := 8, cells := 1, slots := 6, locals := 171 }
def M_L_load : zk_M := (zk_lkc cl_L_load, zk_in [], tb_L, (some (.int), 1, 6), (zk_lka [], fun pc X => match Nat.beq pc 4 with
  | true => if X = "java/lang/IndexOutOfBoundsException" then some 12 else none
  | false => none, zk_in [], zk_in [], zk_lka []))
theorem MO_L_load : zk_MO RL cL_load (yL_load.name = "<init>") M_L_load := zk_MO_of clo_L_load rfl tbo_L
theorem TO_L_load : zk_TO RL cL_load rm_L_load M_L_load := ⟨fun pc h => absurd (zk_in_mem h) List.not_mem_nil, fun pc h => absurd (zk_in_mem h) List.not_mem_nil, fun pc tag h => absurd (zk_lka_mem h) List.not_mem_nil⟩
theorem THo_L_load : ∀ pc X, M_L_load.2.2.2.2.1 pc = some X → zk_TH RL cL_load rm_L_load pc X := fun pc X h => absurd (zk_lka_mem h) List.not_mem_nil
def cl_L_stairsLoad : List (Nat × List (Nat × Instr)) := [(16, [(0, .aload_n 2), (1, .iconst 0), (2, .aload_n 0), (3, .iload_n 1), (4, .invokevirtual 80), (7, .i2l), (8, .lastore), (9, .goto 6), (12, .astore_n 3), (13, .iconst 1), (14, .ireturn), (15, .iconst 0)]),
  (17, [(16, .ireturn)])]
theorem clo_L_stairsLoad : zk_okc cL_stairsLoad cl_L_stairsLoad = true := by decide +kernel
def rm_L_stairsLoad : Room := { frames := 7, cells := 1, slots := 6, locals := 171 }
def M_L_stairsLoad : zk_M := (zk_lkc cl_L_stairsLoad, zk_in [], tb_L, (some (.int), 1, 6), (zk_lka [], fun pc X => match Nat.beq pc 4 with
  | true => if X = "java/lang/IndexOutOfBoundsException" then some 12 else none
  | false => none, zk_in [], zk_in [], zk_lka []))
theorem MO_L_stairsLoad : zk_MO RL cL_stairsLoad (yL_stairsLoad.name = "<init>") M_L_stairsLoad := zk_MO_of clo_L_stairsLoad rfl tbo_L
theorem TO_L_stairsLoad : zk_TO RL cL_stairsLoad rm_L_stairsLoad M_L_stairsLoad := ⟨fun pc h => absurd (zk_in_mem h) List.not_mem_nil, fun pc h => absurd (zk_in_mem h) List.not_mem_nil, fun pc tag h => absurd (zk_lka_mem h) List.not_mem_nil⟩
theorem THo_L_stairsLoad : ∀ pc X, M_L_stairsLoad.2.2.2.2.1 pc = some X → zk_TH RL cL_stairsLoad rm_L_stairsLoad pc X := fun pc X h => absurd (zk_lka_mem h) List.not_mem_nil
def cl_L_left : List (Nat × List (Nat × Instr)) := [(16, [(0, .aload_n 2), (1, .iconst 0), (2, .aload_n 0), (3, .iload_n 1), (4, .invokevirtual 83), (7, .i2l), (8, .lastore), (9, .goto 6), (12, .astore_n 3), (13, .iconst 1), (14, .ireturn), (15, .iconst 0)]),
  (17, [(16, .ireturn)])]
theorem clo_L_left : zk_okc cL_left cl_L_left = true := by decide +kernel
def rm_L_left : Room := { frames := 8, cells := 1, slots := 6, locals := 171 }
def M_L_left : zk_M := (zk_lkc cl_L_left, zk_in [], tb_L, (some (.int), 1, 6), (zk_lka [], fun pc X => match Nat.beq pc 4 with
  | true => if X = "java/lang/IllegalArgumentException" then some 12 else none
  | false => none, zk_in [], zk_in [], zk_lka []))
theorem MO_L_left : zk_MO RL cL_left (yL_left.name = "<init>") M_L_left := zk_MO_of clo_L_left rfl tbo_L
theorem TO_L_left : zk_TO RL cL_left rm_L_left M_L_left := ⟨fun pc h => absurd (zk_in_mem h) List.not_mem_nil, fun pc h => absurd (zk_in_mem h) List.not_mem_nil, fun pc tag h => absurd (zk_lka_mem h) List.not_mem_nil⟩
theorem THo_L_left : ∀ pc X, M_L_left.2.2.2.2.1 pc = some X → zk_TH RL cL_left rm_L_left pc X := fun pc X h => absurd (zk_lka_mem h) List.not_mem_nil
def cl_L_inRoom : List (Nat × List (Nat × Instr)) := [(17, [(0, .aload_n 3), (1, .iconst 0), (2, .aload_n 0), (3, .iload_n 1), (4, .iload_n 2), (5, .invokevirtual 86), (8, .i2l), (9, .lastore), (10, .goto 11), (13, .astore 4), (15, .iconst 1), (16, .ireturn)]),
  (23, [(17, .astore 4), (19, .iconst 2), (20, .ireturn), (21, .iconst 0), (22, .ireturn)])]
theorem clo_L_inRoom : zk_okc cL_inRoom cl_L_inRoom = true := by decide +kernel
def rm_L_inRoom : Room := { frames := 8, cells := 2, slots := 12, locals := 173 }
def M_L_inRoom : zk_M := (zk_lkc cl_L_inRoom, zk_in [], tb_L, (some (.int), 2, 12), (zk_lka [], fun pc X => match Nat.beq pc 5 with
  | true => if X = "java/lang/IndexOutOfBoundsException" then some 13 else if X = "java/lang/IllegalArgumentException" then some 17 else none
  | false => none, zk_in [], zk_in [], zk_lka []))
theorem MO_L_inRoom : zk_MO RL cL_inRoom (yL_inRoom.name = "<init>") M_L_inRoom := zk_MO_of clo_L_inRoom rfl tbo_L
theorem TO_L_inRoom : zk_TO RL cL_inRoom rm_L_inRoom M_L_inRoom := ⟨fun pc h => absurd (zk_in_mem h) List.not_mem_nil, fun pc h => absurd (zk_in_mem h) List.not_mem_nil, fun pc tag h => absurd (zk_lka_mem h) List.not_mem_nil⟩
theorem THo_L_inRoom : ∀ pc X, M_L_inRoom.2.2.2.2.1 pc = some X → zk_TH RL cL_inRoom rm_L_inRoom pc X := fun pc X h => absurd (zk_lka_mem h) List.not_mem_nil
def cl_L_ruleOf : List (Nat × List (Nat × Instr)) := [(16, [(0, .aload_n 2), (1, .iconst 0), (2, .aload_n 0), (3, .iload_n 1), (4, .invokevirtual 89), (7, .i2l), (8, .lastore), (9, .goto 6), (12, .astore_n 3), (13, .iconst 1), (14, .ireturn), (15, .iconst 0)]),
  (17, [(16, .ireturn)])]
theorem clo_L_ruleOf : zk_okc cL_ruleOf cl_L_ruleOf = true := by decide +kernel
def rm_L_ruleOf : Room := { frames := 8, cells := 1, slots := 6, locals := 171 }
def M_L_ruleOf : zk_M := (zk_lkc cl_L_ruleOf, zk_in [], tb_L, (some (.int), 1, 6), (zk_lka [], fun pc X => match Nat.beq pc 4 with
  | true => if X = "java/lang/IndexOutOfBoundsException" then some 12 else none
  | false => none, zk_in [], zk_in [], zk_lka []))
theorem MO_L_ruleOf : zk_MO RL cL_ruleOf (yL_ruleOf.name = "<init>") M_L_ruleOf := zk_MO_of clo_L_ruleOf rfl tbo_L
theorem TO_L_ruleOf : zk_TO RL cL_ruleOf rm_L_ruleOf M_L_ruleOf := ⟨fun pc h => absurd (zk_in_mem h) List.not_mem_nil, fun pc h => absurd (zk_in_mem h) List.not_mem_nil, fun pc tag h => absurd (zk_lka_mem h) List.not_mem_nil⟩
theorem THo_L_ruleOf : ∀ pc X, M_L_ruleOf.2.2.2.2.1 pc = some X → zk_TH RL cL_ruleOf rm_L_ruleOf pc X := fun pc X h => absurd (zk_lka_mem h) List.not_mem_nil
def cl_L_whereOf : List (Nat × List (Nat × Instr)) := [(16, [(0, .aload_n 2), (1, .iconst 0), (2, .aload_n 0), (3, .iload_n 1), (4, .invokevirtual 92), (7, .i2l), (8, .lastore), (9, .goto 6), (12, .astore_n 3), (13, .iconst 1), (14, .ireturn), (15, .iconst 0)]),
  (17, [(16, .ireturn)])]
theorem clo_L_whereOf : zk_okc cL_whereOf cl_L_whereOf = true := by decide +kernel
def rm_L_whereOf : Room := { frames := 8, cells := 1, slots := 6, locals := 171 }
def M_L_whereOf : zk_M := (zk_lkc cl_L_whereOf, zk_in [], tb_L, (some (.int), 1, 6), (zk_lka [], fun pc X => match Nat.beq pc 4 with
  | true => if X = "java/lang/IndexOutOfBoundsException" then some 12 else none
  | false => none, zk_in [], zk_in [], zk_lka []))
theorem MO_L_whereOf : zk_MO RL cL_whereOf (yL_whereOf.name = "<init>") M_L_whereOf := zk_MO_of clo_L_whereOf rfl tbo_L
theorem TO_L_whereOf : zk_TO RL cL_whereOf rm_L_whereOf M_L_whereOf := ⟨fun pc h => absurd (zk_in_mem h) List.not_mem_nil, fun pc h => absurd (zk_in_mem h) List.not_mem_nil, fun pc tag h => absurd (zk_lka_mem h) List.not_mem_nil⟩
theorem THo_L_whereOf : ∀ pc X, M_L_whereOf.2.2.2.2.1 pc = some X → zk_TH RL cL_whereOf rm_L_whereOf pc X := fun pc X h => absurd (zk_lka_mem h) List.not_mem_nil
def cl_L_howMuch : List (Nat × List (Nat × Instr)) := [(16, [(0, .aload_n 2), (1, .iconst 0), (2, .aload_n 0), (3, .iload_n 1), (4, .invokevirtual 95), (7, .i2l), (8, .lastore), (9, .goto 6), (12, .astore_n 3), (13, .iconst 1), (14, .ireturn), (15, .iconst 0)]),
  (17, [(16, .ireturn)])]
theorem clo_L_howMuch : zk_okc cL_howMuch cl_L_howMuch = true := by decide +kernel
def rm_L_howMuch : Room := { frames := 8, cells := 1, slots := 6, locals := 171 }
def M_L_howMuch : zk_M := (zk_lkc cl_L_howMuch, zk_in [], tb_L, (some (.int), 1, 6), (zk_lka [], fun pc X => match Nat.beq pc 4 with
  | true => if X = "java/lang/IndexOutOfBoundsException" then some 12 else none
  | false => none, zk_in [], zk_in [], zk_lka []))
theorem MO_L_howMuch : zk_MO RL cL_howMuch (yL_howMuch.name = "<init>") M_L_howMuch := zk_MO_of clo_L_howMuch rfl tbo_L
theorem TO_L_howMuch : zk_TO RL cL_howMuch rm_L_howMuch M_L_howMuch := ⟨fun pc h => absurd (zk_in_mem h) List.not_mem_nil, fun pc h => absurd (zk_in_mem h) List.not_mem_nil, fun pc tag h => absurd (zk_lka_mem h) List.not_mem_nil⟩
theorem THo_L_howMuch : ∀ pc X, M_L_howMuch.2.2.2.2.1 pc = some X → zk_TH RL cL_howMuch rm_L_howMuch pc X := fun pc X h => absurd (zk_lka_mem h) List.not_mem_nil
def cl_L_broken : List (Nat × List (Nat × Instr)) := [(16, [(0, .aload_n 2), (1, .iconst 0), (2, .aload_n 0), (3, .iload_n 1), (4, .invokevirtual 98), (7, .i2l), (8, .lastore), (9, .goto 6), (12, .astore_n 3), (13, .iconst 1), (14, .ireturn), (15, .iconst 0)]),
  (17, [(16, .ireturn)])]
theorem clo_L_broken : zk_okc cL_broken cl_L_broken = true := by decide +kernel
def rm_L_broken : Room := { frames := 7, cells := 1, slots := 6, locals := 171 }
def M_L_broken : zk_M := (zk_lkc cl_L_broken, zk_in [], tb_L, (some (.int), 1, 6), (zk_lka [], fun pc X => match Nat.beq pc 4 with
  | true => if X = "java/lang/IndexOutOfBoundsException" then some 12 else none
  | false => none, zk_in [], zk_in [], zk_lka []))
theorem MO_L_broken : zk_MO RL cL_broken (yL_broken.name = "<init>") M_L_broken := zk_MO_of clo_L_broken rfl tbo_L
theorem TO_L_broken : zk_TO RL cL_broken rm_L_broken M_L_broken := ⟨fun pc h => absurd (zk_in_mem h) List.not_mem_nil, fun pc h => absurd (zk_in_mem h) List.not_mem_nil, fun pc tag h => absurd (zk_lka_mem h) List.not_mem_nil⟩
theorem THo_L_broken : ∀ pc X, M_L_broken.2.2.2.2.1 pc = some X → zk_TH RL cL_broken rm_L_broken pc X := fun pc X h => absurd (zk_lka_mem h) List.not_mem_nil
def cl_L_faultsWith : List (Nat × List (Nat × Instr)) := [(16, [(0, .aload_n 2), (1, .iconst 0), (2, .aload_n 0), (3, .iload_n 1), (4, .invokevirtual 101), (7, .i2l), (8, .lastore), (9, .goto 6), (12, .astore_n 3), (13, .iconst 1), (14, .ireturn), (15, .iconst 0)]),
  (17, [(16, .ireturn)])]
theorem clo_L_faultsWith : zk_okc cL_faultsWith cl_L_faultsWith = true := by decide +kernel
def rm_L_faultsWith : Room := { frames := 8, cells := 1, slots := 6, locals := 173 }
def M_L_faultsWith : zk_M := (zk_lkc cl_L_faultsWith, zk_in [], tb_L, (some (.int), 1, 6), (zk_lka [], fun pc X => match Nat.beq pc 4 with
  | true => if X = "java/lang/IndexOutOfBoundsException" then some 12 else none
  | false => none, zk_in [], zk_in [], zk_lka []))
theorem MO_L_faultsWith : zk_MO RL cL_faultsWith (yL_faultsWith.name = "<init>") M_L_faultsWith := zk_MO_of clo_L_faultsWith rfl tbo_L
theorem TO_L_faultsWith : zk_TO RL cL_faultsWith rm_L_faultsWith M_L_faultsWith := ⟨fun pc h => absurd (zk_in_mem h) List.not_mem_nil, fun pc h => absurd (zk_in_mem h) List.not_mem_nil, fun pc tag h => absurd (zk_lka_mem h) List.not_mem_nil⟩
theorem THo_L_faultsWith : ∀ pc X, M_L_faultsWith.2.2.2.2.1 pc = some X → zk_TH RL cL_faultsWith rm_L_faultsWith pc X := fun pc X h => absurd (zk_lka_mem h) List.not_mem_nil
def cl_L_lostWithout : List (Nat × List (Nat × Instr)) := [(16, [(0, .aload_n 2), (1, .iconst 0), (2, .aload_n 0), (3, .iload_n 1), (4, .invokevirtual 104), (7, .i2l), (8, .lastore), (9, .goto 6), (12, .astore_n 3), (13, .iconst 1), (14, .ireturn), (15, .iconst 0)]),
  (17, [(16, .ireturn)])]
theorem clo_L_lostWithout : zk_okc cL_lostWithout cl_L_lostWithout = true := by decide +kernel
def rm_L_lostWithout : Room := { frames := 8, cells := 1, slots := 6, locals := 174 }
def M_L_lostWithout : zk_M := (zk_lkc cl_L_lostWithout, zk_in [], tb_L, (some (.int), 1, 6), (zk_lka [], fun pc X => match Nat.beq pc 4 with
  | true => if X = "java/lang/IndexOutOfBoundsException" then some 12 else none
  | false => none, zk_in [], zk_in [], zk_lka []))
theorem MO_L_lostWithout : zk_MO RL cL_lostWithout (yL_lostWithout.name = "<init>") M_L_lostWithout := zk_MO_of clo_L_lostWithout rfl tbo_L
theorem TO_L_lostWithout : zk_TO RL cL_lostWithout rm_L_lostWithout M_L_lostWithout := ⟨fun pc h => absurd (zk_in_mem h) List.not_mem_nil, fun pc h => absurd (zk_in_mem h) List.not_mem_nil, fun pc tag h => absurd (zk_lka_mem h) List.not_mem_nil⟩
theorem THo_L_lostWithout : ∀ pc X, M_L_lostWithout.2.2.2.2.1 pc = some X → zk_TH RL cL_lostWithout rm_L_lostWithout pc X := fun pc X h => absurd (zk_lka_mem h) List.not_mem_nil
def cl_L_timeWith : List (Nat × List (Nat × Instr)) := [(17, [(0, .aload_n 3), (1, .iconst 0), (2, .aload_n 0), (3, .iload_n 1), (4, .iload_n 2), (5, .invokevirtual 107), (8, .i2l), (9, .lastore), (10, .goto 11), (13, .astore 4), (15, .iconst 1), (16, .ireturn)]),
  (23, [(17, .astore 4), (19, .iconst 2), (20, .ireturn), (21, .iconst 0), (22, .ireturn)])]
theorem clo_L_timeWith : zk_okc cL_timeWith cl_L_timeWith = true := by decide +kernel
def rm_L_timeWith : Room := { frames := 8, cells := 2, slots := 12, locals := 175 }
def M_L_timeWith : zk_M := (zk_lkc cl_L_timeWith, zk_in [], tb_L, (some (.int), 2, 12), (zk_lka [], fun pc X => match Nat.beq pc 5 with
  | true => if X = "java/lang/IndexOutOfBoundsException" then some 13 else if X = "java/lang/IllegalArgumentException" then some 17 else none
  | false => none, zk_in [], zk_in [], zk_lka []))
theorem MO_L_timeWith : zk_MO RL cL_timeWith (yL_timeWith.name = "<init>") M_L_timeWith := zk_MO_of clo_L_timeWith rfl tbo_L
theorem TO_L_timeWith : zk_TO RL cL_timeWith rm_L_timeWith M_L_timeWith := ⟨fun pc h => absurd (zk_in_mem h) List.not_mem_nil, fun pc h => absurd (zk_in_mem h) List.not_mem_nil, fun pc tag h => absurd (zk_lka_mem h) List.not_mem_nil⟩
theorem THo_L_timeWith : ∀ pc X, M_L_timeWith.2.2.2.2.1 pc = some X → zk_TH RL cL_timeWith rm_L_timeWith pc X := fun pc X h => absurd (zk_lka_mem h) List.not_mem_nil
def cl_L_mostPeople : List (Nat × List (Nat × Instr)) := [(16, [(0, .aload_n 2), (1, .iconst 0), (2, .aload_n 0), (3, .iload_n 1), (4, .invokevirtual 110), (7, .i2l), (8, .lastore), (9, .goto 6), (12, .astore_n 3), (13, .iconst 1), (14, .ireturn), (15, .iconst 0)]),
  (17, [(16, .ireturn)])]
theorem clo_L_mostPeople : zk_okc cL_mostPeople cl_L_mostPeople = true := by decide +kernel
def rm_L_mostPeople : Room := { frames := 8, cells := 1, slots := 6, locals := 125 }
def M_L_mostPeople : zk_M := (zk_lkc cl_L_mostPeople, zk_in [], tb_L, (some (.int), 1, 6), (zk_lka [], fun pc X => match Nat.beq pc 4 with
  | true => if X = "java/lang/IndexOutOfBoundsException" then some 12 else none
  | false => none, zk_in [], zk_in [], zk_lka []))
theorem MO_L_mostPeople : zk_MO RL cL_mostPeople (yL_mostPeople.name = "<init>") M_L_mostPeople := zk_MO_of clo_L_mostPeople rfl tbo_L
theorem TO_L_mostPeople : zk_TO RL cL_mostPeople rm_L_mostPeople M_L_mostPeople := ⟨fun pc h => absurd (zk_in_mem h) List.not_mem_nil, fun pc h => absurd (zk_in_mem h) List.not_mem_nil, fun pc tag h => absurd (zk_lka_mem h) List.not_mem_nil⟩
theorem THo_L_mostPeople : ∀ pc X, M_L_mostPeople.2.2.2.2.1 pc = some X → zk_TH RL cL_mostPeople rm_L_mostPeople pc X := fun pc X h => absurd (zk_lka_mem h) List.not_mem_nil
