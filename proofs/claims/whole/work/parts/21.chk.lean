/-! printed by wip/gen/main.py: the tables are as the small machine wants them -/
def amWS : List Jvm.Cond := lw_tbl.filter goodWord
def amNW : List Jvm.Cond := lw_tbl.filter am_isN
theorem am_tm {w : Jvm.Cond} (i : Nat) (h : tables_1[i]? = some w) (hg : goodWord w = true) : w ∈ amWS := List.mem_filter.mpr ⟨List.mem_append_right _ (List.mem_of_getElem? h), hg⟩
theorem am_ts {w : Jvm.Cond} (i : Nat) (h : (k2_sels lw_privs)[i]? = some w) (hg : goodWord w = true) : w ∈ amWS := List.mem_filter.mpr ⟨List.mem_append_left _ (List.mem_of_getElem? h), hg⟩
theorem am_tc1 {w : Jvm.Cond} (i : Nat) (h : tables_1_1[i]? = some w) (hg : goodWord w = true) : w ∈ amWS := by
  have h := List.mem_of_getElem? h
  exact List.mem_filter.mpr ⟨List.mem_append_right _ (List.mem_append_left _ h), hg⟩
theorem am_tc2 {w : Jvm.Cond} (i : Nat) (h : tables_1_2[i]? = some w) (hg : goodWord w = true) : w ∈ amWS := by
  have h := List.mem_of_getElem? h
  exact List.mem_filter.mpr ⟨List.mem_append_right _ (List.mem_append_right _ (List.mem_append_left _ h)), hg⟩
theorem am_tc3 {w : Jvm.Cond} (i : Nat) (h : tables_1_3[i]? = some w) (hg : goodWord w = true) : w ∈ amWS := by
  have h := List.mem_of_getElem? h
  exact List.mem_filter.mpr ⟨List.mem_append_right _ (List.mem_append_right _ (List.mem_append_right _ (List.mem_append_left _ h))), hg⟩
theorem am_tc4 {w : Jvm.Cond} (i : Nat) (h : tables_1_4[i]? = some w) (hg : goodWord w = true) : w ∈ amWS := by
  have h := List.mem_of_getElem? h
  exact List.mem_filter.mpr ⟨List.mem_append_right _ (List.mem_append_right _ (List.mem_append_right _ (List.mem_append_right _ (List.mem_append_left _ h)))), hg⟩
theorem am_tc5 {w : Jvm.Cond} (i : Nat) (h : tables_1_5[i]? = some w) (hg : goodWord w = true) : w ∈ amWS := by
  have h := List.mem_of_getElem? h
  exact List.mem_filter.mpr ⟨List.mem_append_right _ (List.mem_append_right _ (List.mem_append_right _ (List.mem_append_right _ (List.mem_append_right _ (h))))), hg⟩
theorem am_FLof {FL : List (Nat × Jvm.Cond)} (ps : List Nat) (hp : FL.map (fun q => q.2) = ps.filterMap (fun i => tables_1[i]?)) (hg : FL.all (fun q => am_isN q.2 || goodWord q.2) = true) : am_FLok FL amWS amNW := by
  intro q hq
  have h1 : q.2 ∈ ps.filterMap (fun i => tables_1[i]?) := by
    rw [← hp]
    exact List.mem_map_of_mem hq
  obtain ⟨i, -, hi⟩ := List.mem_filterMap.mp h1
  have h2 : q.2 ∈ lw_tbl := List.mem_append_right _ (List.mem_of_getElem? hi)
  have h3 := List.all_eq_true.mp hg q hq
  refine ⟨fun h => List.mem_filter.mpr ⟨h2, ?_⟩, fun h => List.mem_filter.mpr ⟨h2, h⟩⟩
  rw [h, Bool.false_or] at h3
  exact h3
def amFW : List (Nat × Jvm.Cond) := [(7, (Jvm.Cond.classLink "ConeFormsLaw" (7 : Nat) "ConeForms")), (9, (Jvm.Cond.methodLink "ConeFormsLaw" (9 : Nat) ({ cls := "ConeForms", name := "<init>", desc := "()V" } : Jvm.MethodName))), (13, (Jvm.Cond.methodLink "ConeFormsLaw" (13 : Nat) ({ cls := "ConeForms", name := "type", desc := "(C)Z" } : Jvm.MethodName))), (18, (Jvm.Cond.methodLink "ConeFormsLaw" (18 : Nat) ({ cls := "ConeForms", name := "wipe", desc := "()V" } : Jvm.MethodName))), (22, (Jvm.Cond.methodLink "ConeFormsLaw" (22 : Nat) ({ cls := "ConeForms", name := "read", desc := "()I" } : Jvm.MethodName))), (27, (Jvm.Cond.methodLink "ConeFormsLaw" (27 : Nat) ({ cls := "ConeForms", name := "nodes", desc := "()I" } : Jvm.MethodName))), (31, (Jvm.Cond.methodLink "ConeFormsLaw" (31 : Nat) ({ cls := "ConeForms", name := "attributes", desc := "(I)I" } : Jvm.MethodName))), (36, (Jvm.Cond.methodLink "ConeFormsLaw" (36 : Nat) ({ cls := "ConeForms", name := "reach", desc := "(I)I" } : Jvm.MethodName))), (40, (Jvm.Cond.methodLink "ConeFormsLaw" (40 : Nat) ({ cls := "ConeForms", name := "set", desc := "(II)Z" } : Jvm.MethodName))), (45, (Jvm.Cond.methodLink "ConeFormsLaw" (45 : Nat) ({ cls := "ConeForms", name := "value", desc := "(I)I" } : Jvm.MethodName))), (49, (Jvm.Cond.methodLink "ConeFormsLaw" (49 : Nat) ({ cls := "ConeForms", name := "culprit", desc := "(I)I" } : Jvm.MethodName))), (53, (Jvm.Cond.methodLink "ConeFormsLaw" (53 : Nat) ({ cls := "ConeForms", name := "objective", desc := "(IZ)Z" } : Jvm.MethodName))), (58, (Jvm.Cond.methodLink "ConeFormsLaw" (58 : Nat) ({ cls := "ConeForms", name := "require", desc := "(ZII)Z" } : Jvm.MethodName))), (63, (Jvm.Cond.methodLink "ConeFormsLaw" (63 : Nat) ({ cls := "ConeForms", name := "withdraw", desc := "(I)Z" } : Jvm.MethodName))), (68, (Jvm.Cond.methodLink "ConeFormsLaw" (68 : Nat) ({ cls := "ConeForms", name := "compile", desc := "()I" } : Jvm.MethodName))), (72, (Jvm.Cond.methodLink "ConeFormsLaw" (72 : Nat) ({ cls := "ConeForms", name := "rows", desc := "(I)I" } : Jvm.MethodName))), (76, (Jvm.Cond.methodLink "ConeFormsLaw" (76 : Nat) ({ cls := "ConeForms", name := "entry", desc := "(II)I" } : Jvm.MethodName))), (81, (Jvm.Cond.methodLink "ConeFormsLaw" (81 : Nat) ({ cls := "ConeForms", name := "column", desc := "(I)I" } : Jvm.MethodName))), (85, (Jvm.Cond.methodLink "ConeFormsLaw" (85 : Nat) ({ cls := "ConeForms", name := "lift", desc := "()Z" } : Jvm.MethodName))), (90, (Jvm.Cond.methodLink "ConeFormsLaw" (90 : Nat) ({ cls := "ConeForms", name := "fits", desc := "()Z" } : Jvm.MethodName))), (94, (Jvm.Cond.methodLink "ConeFormsLaw" (94 : Nat) ({ cls := "ConeForms", name := "cost", desc := "()J" } : Jvm.MethodName))), (99, (Jvm.Cond.methodLink "ConeFormsLaw" (99 : Nat) ({ cls := "ConeForms", name := "feasible", desc := "()Z" } : Jvm.MethodName))), (10, (Jvm.Cond.classLink "ConeFormsLaw" (10 : Nat) "ConeFormsModel")), (12, (Jvm.Cond.methodLink "ConeFormsLaw" (12 : Nat) ({ cls := "ConeFormsModel", name := "<init>", desc := "()V" } : Jvm.MethodName))), (17, (Jvm.Cond.methodLink "ConeFormsLaw" (17 : Nat) ({ cls := "ConeFormsModel", name := "type", desc := "(C)Z" } : Jvm.MethodName))), (21, (Jvm.Cond.methodLink "ConeFormsLaw" (21 : Nat) ({ cls := "ConeFormsModel", name := "wipe", desc := "()V" } : Jvm.MethodName))), (26, (Jvm.Cond.methodLink "ConeFormsLaw" (26 : Nat) ({ cls := "ConeFormsModel", name := "read", desc := "()I" } : Jvm.MethodName))), (30, (Jvm.Cond.methodLink "ConeFormsLaw" (30 : Nat) ({ cls := "ConeFormsModel", name := "nodes", desc := "()I" } : Jvm.MethodName))), (35, (Jvm.Cond.methodLink "ConeFormsLaw" (35 : Nat) ({ cls := "ConeFormsModel", name := "attributes", desc := "(I)I" } : Jvm.MethodName))), (39, (Jvm.Cond.methodLink "ConeFormsLaw" (39 : Nat) ({ cls := "ConeFormsModel", name := "reach", desc := "(I)I" } : Jvm.MethodName))), (48, (Jvm.Cond.methodLink "ConeFormsLaw" (48 : Nat) ({ cls := "ConeFormsModel", name := "value", desc := "(I)I" } : Jvm.MethodName))), (52, (Jvm.Cond.methodLink "ConeFormsLaw" (52 : Nat) ({ cls := "ConeFormsModel", name := "culprit", desc := "(I)I" } : Jvm.MethodName))), (57, (Jvm.Cond.methodLink "ConeFormsLaw" (57 : Nat) ({ cls := "ConeFormsModel", name := "objective", desc := "(IZ)Z" } : Jvm.MethodName))), (62, (Jvm.Cond.methodLink "ConeFormsLaw" (62 : Nat) ({ cls := "ConeFormsModel", name := "require", desc := "(ZII)Z" } : Jvm.MethodName))), (67, (Jvm.Cond.methodLink "ConeFormsLaw" (67 : Nat) ({ cls := "ConeFormsModel", name := "withdraw", desc := "(I)Z" } : Jvm.MethodName))), (102, (Jvm.Cond.methodLink "ConeFormsLaw" (102 : Nat) ({ cls := "ConeFormsModel", name := "feasible", desc := "()Z" } : Jvm.MethodName))), (71, (Jvm.Cond.methodLink "ConeFormsLaw" (71 : Nat) ({ cls := "ConeFormsModel", name := "compile", desc := "()I" } : Jvm.MethodName))), (84, (Jvm.Cond.methodLink "ConeFormsLaw" (84 : Nat) ({ cls := "ConeFormsModel", name := "column", desc := "(I)I" } : Jvm.MethodName))), (75, (Jvm.Cond.methodLink "ConeFormsLaw" (75 : Nat) ({ cls := "ConeFormsModel", name := "rows", desc := "(I)I" } : Jvm.MethodName))), (80, (Jvm.Cond.methodLink "ConeFormsLaw" (80 : Nat) ({ cls := "ConeFormsModel", name := "entry", desc := "(II)I" } : Jvm.MethodName))), (44, (Jvm.Cond.methodLink "ConeFormsLaw" (44 : Nat) ({ cls := "ConeFormsModel", name := "set", desc := "(II)Z" } : Jvm.MethodName))), (89, (Jvm.Cond.methodLink "ConeFormsLaw" (89 : Nat) ({ cls := "ConeFormsModel", name := "lift", desc := "()Z" } : Jvm.MethodName))), (93, (Jvm.Cond.methodLink "ConeFormsLaw" (93 : Nat) ({ cls := "ConeFormsModel", name := "fits", desc := "()Z" } : Jvm.MethodName))), (98, (Jvm.Cond.methodLink "ConeFormsLaw" (98 : Nat) ({ cls := "ConeFormsModel", name := "cost", desc := "()J" } : Jvm.MethodName)))]
theorem amFW_ok : am_FLok amFW amWS amNW := am_FLof [11, 13, 247, 255, 259, 446, 450, 458, 462, 481, 485, 489, 497, 505, 513, 554, 558, 602, 606, 614, 626, 634, 642, 644, 757, 761, 765, 826, 830, 877, 881, 885, 893, 897, 901, 905, 909, 937, 945, 956, 981, 986, 990, 997] (by decide +kernel) (by decide +kernel)
def amFC : List (Nat × Jvm.Cond) := [(3, (Jvm.Cond.methodLink "ConeForms" (3 : Nat) ({ cls := "java/lang/Object", name := "<init>", desc := "()V" } : Jvm.MethodName))), (9, (Jvm.Cond.classLink "ConeForms" (9 : Nat) "ConeForms$Line")), (11, (Jvm.Cond.methodLinkNest "ConeForms" (11 : Nat) ({ cls := "ConeForms$Line", name := "<init>", desc := "()V" } : Jvm.MethodName) "ConeForms")), (68, (Jvm.Cond.fieldLinkNest "ConeForms" (68 : Nat) "ConeForms$Line" "length" "I" "ConeForms")), (16, (Jvm.Cond.classLink "ConeForms" (16 : Nat) "ConeForms$Script")), (18, (Jvm.Cond.methodLinkNest "ConeForms" (18 : Nat) ({ cls := "ConeForms$Script", name := "<init>", desc := "()V" } : Jvm.MethodName) "ConeForms")), (23, (Jvm.Cond.classLink "ConeForms" (23 : Nat) "ConeForms$Parser")), (25, (Jvm.Cond.methodLinkNest "ConeForms" (25 : Nat) ({ cls := "ConeForms$Parser", name := "<init>", desc := "(LConeForms$Line;LConeForms$Script;)V" } : Jvm.MethodName) "ConeForms")), (32, (Jvm.Cond.classLink "ConeForms" (32 : Nat) "ConeForms$Graph")), (34, (Jvm.Cond.methodLinkNest "ConeForms" (34 : Nat) ({ cls := "ConeForms$Graph", name := "<init>", desc := "()V" } : Jvm.MethodName) "ConeForms")), (101, (Jvm.Cond.fieldLinkNest "ConeForms" (101 : Nat) "ConeForms$Graph" "reach" "[I" "ConeForms")), (91, (Jvm.Cond.fieldLinkNest "ConeForms" (91 : Nat) "ConeForms$Graph" "sign" "[I" "ConeForms")), (95, (Jvm.Cond.fieldLinkNest "ConeForms" (95 : Nat) "ConeForms$Graph" "curvature" "[I" "ConeForms")), (98, (Jvm.Cond.fieldLinkNest "ConeForms" (98 : Nat) "ConeForms$Graph" "blame" "[I" "ConeForms")), (117, (Jvm.Cond.fieldLinkNest "ConeForms" (117 : Nat) "ConeForms$Graph" "culprit" "[I" "ConeForms")), (114, (Jvm.Cond.fieldLinkNest "ConeForms" (114 : Nat) "ConeForms$Graph" "value" "[I" "ConeForms")), (76, (Jvm.Cond.fieldLinkNest "ConeForms" (76 : Nat) "ConeForms$Graph" "count" "I" "ConeForms")), (39, (Jvm.Cond.classLink "ConeForms" (39 : Nat) "ConeForms$Builder")), (41, (Jvm.Cond.methodLinkNest "ConeForms" (41 : Nat) ({ cls := "ConeForms$Builder", name := "<init>", desc := "(LConeForms$Graph;)V" } : Jvm.MethodName) "ConeForms")), (48, (Jvm.Cond.classLink "ConeForms" (48 : Nat) "ConeForms$Problem")), (50, (Jvm.Cond.methodLinkNest "ConeForms" (50 : Nat) ({ cls := "ConeForms$Problem", name := "<init>", desc := "()V" } : Jvm.MethodName) "ConeForms")), (135, (Jvm.Cond.fieldLinkNest "ConeForms" (135 : Nat) "ConeForms$Problem" "target" "I" "ConeForms")), (55, (Jvm.Cond.classLink "ConeForms" (55 : Nat) "ConeForms$Form")), (57, (Jvm.Cond.methodLinkNest "ConeForms" (57 : Nat) ({ cls := "ConeForms$Form", name := "<init>", desc := "(LConeForms$Graph;LConeForms$Problem;)V" } : Jvm.MethodName) "ConeForms")), (161, (Jvm.Cond.fieldLinkNest "ConeForms" (161 : Nat) "ConeForms$Form" "columnOf" "[I" "ConeForms")), (148, (Jvm.Cond.fieldLinkNest "ConeForms" (148 : Nat) "ConeForms$Form" "coneRows" "[I" "ConeForms")), (145, (Jvm.Cond.fieldLinkNest "ConeForms" (145 : Nat) "ConeForms$Form" "columns" "I" "ConeForms")), (124, (Jvm.Cond.fieldLinkNest "ConeForms" (124 : Nat) "ConeForms$Form" "stands" "Z" "ConeForms")), (12, (Jvm.Cond.fieldLink "ConeForms" (12 : Nat) "ConeForms" "line" "LConeForms$Line;")), (19, (Jvm.Cond.fieldLink "ConeForms" (19 : Nat) "ConeForms" "script" "LConeForms$Script;")), (28, (Jvm.Cond.fieldLink "ConeForms" (28 : Nat) "ConeForms" "parser" "LConeForms$Parser;")), (35, (Jvm.Cond.fieldLink "ConeForms" (35 : Nat) "ConeForms" "graph" "LConeForms$Graph;")), (44, (Jvm.Cond.fieldLink "ConeForms" (44 : Nat) "ConeForms" "builder" "LConeForms$Builder;")), (51, (Jvm.Cond.fieldLink "ConeForms" (51 : Nat) "ConeForms" "problem" "LConeForms$Problem;")), (60, (Jvm.Cond.fieldLink "ConeForms" (60 : Nat) "ConeForms" "form" "LConeForms$Form;")), (64, (Jvm.Cond.methodLinkNest "ConeForms" (64 : Nat) ({ cls := "ConeForms$Line", name := "append", desc := "(C)Z" } : Jvm.MethodName) "ConeForms")), (72, (Jvm.Cond.methodLinkNest "ConeForms" (72 : Nat) ({ cls := "ConeForms$Parser", name := "parseLine", desc := "()I" } : Jvm.MethodName) "ConeForms")), (79, (Jvm.Cond.methodLinkNest "ConeForms" (79 : Nat) ({ cls := "ConeForms$Builder", name := "build", desc := "(LConeForms$Script;)I" } : Jvm.MethodName) "ConeForms")), (83, (Jvm.Cond.methodLinkNest "ConeForms" (83 : Nat) ({ cls := "ConeForms$Graph", name := "describe", desc := "(I)V" } : Jvm.MethodName) "ConeForms")), (87, (Jvm.Cond.methodLinkNest "ConeForms" (87 : Nat) ({ cls := "ConeForms$Graph", name := "has", desc := "(I)Z" } : Jvm.MethodName) "ConeForms")), (104, (Jvm.Cond.methodLinkNest "ConeForms" (104 : Nat) ({ cls := "ConeForms$Graph", name := "isInput", desc := "(I)Z" } : Jvm.MethodName) "ConeForms")), (107, (Jvm.Cond.methodLinkNest "ConeForms" (107 : Nat) ({ cls := "ConeForms$Graph", name := "assign", desc := "(II)Z" } : Jvm.MethodName) "ConeForms")), (111, (Jvm.Cond.methodLinkNest "ConeForms" (111 : Nat) ({ cls := "ConeForms$Form", name := "assignOwn", desc := "(II)Z" } : Jvm.MethodName) "ConeForms")), (120, (Jvm.Cond.methodLinkNest "ConeForms" (120 : Nat) ({ cls := "ConeForms$Problem", name := "aim", desc := "(IZ)V" } : Jvm.MethodName) "ConeForms")), (128, (Jvm.Cond.methodLinkNest "ConeForms" (128 : Nat) ({ cls := "ConeForms$Problem", name := "add", desc := "(ZII)Z" } : Jvm.MethodName) "ConeForms")), (132, (Jvm.Cond.methodLinkNest "ConeForms" (132 : Nat) ({ cls := "ConeForms$Problem", name := "remove", desc := "(I)Z" } : Jvm.MethodName) "ConeForms")), (138, (Jvm.Cond.methodLinkNest "ConeForms" (138 : Nat) ({ cls := "ConeForms$Problem", name := "guiltyNode", desc := "(LConeForms$Graph;)I" } : Jvm.MethodName) "ConeForms")), (142, (Jvm.Cond.methodLinkNest "ConeForms" (142 : Nat) ({ cls := "ConeForms$Form", name := "make", desc := "()V" } : Jvm.MethodName) "ConeForms")), (151, (Jvm.Cond.methodLinkNest "ConeForms" (151 : Nat) ({ cls := "ConeForms$Form", name := "hasRow", desc := "(I)Z" } : Jvm.MethodName) "ConeForms")), (154, (Jvm.Cond.methodLinkNest "ConeForms" (154 : Nat) ({ cls := "ConeForms$Form", name := "hasColumn", desc := "(I)Z" } : Jvm.MethodName) "ConeForms")), (157, (Jvm.Cond.methodLinkNest "ConeForms" (157 : Nat) ({ cls := "ConeForms$Form", name := "numberAt", desc := "(II)I" } : Jvm.MethodName) "ConeForms")), (164, (Jvm.Cond.methodLinkNest "ConeForms" (164 : Nat) ({ cls := "ConeForms$Form", name := "liftOwn", desc := "()V" } : Jvm.MethodName) "ConeForms")), (167, (Jvm.Cond.methodLinkNest "ConeForms" (167 : Nat) ({ cls := "ConeForms$Form", name := "allRowsFit", desc := "()Z" } : Jvm.MethodName) "ConeForms")), (171, (Jvm.Cond.methodLinkNest "ConeForms" (171 : Nat) ({ cls := "ConeForms$Form", name := "costValue", desc := "()J" } : Jvm.MethodName) "ConeForms")), (175, (Jvm.Cond.methodLinkNest "ConeForms" (175 : Nat) ({ cls := "ConeForms$Problem", name := "allHold", desc := "(LConeForms$Graph;)Z" } : Jvm.MethodName) "ConeForms"))]
theorem amFC_ok : am_FLok amFC amWS amNW := am_FLof [16, 19, 21, 29, 36, 38, 57, 59, 76, 78, 87, 89, 91, 95, 98, 101, 105, 128, 130, 144, 146, 160, 177, 179, 187, 190, 196, 198, 225, 226, 227, 228, 229, 230, 231, 251, 263, 311, 357, 454, 466, 467, 471, 493, 501, 509, 517, 524, 562, 566, 570, 610, 618, 630, 638] (by decide +kernel) (by decide +kernel)
def amFL : List (Nat × Jvm.Cond) := [(3, (Jvm.Cond.methodLink "ConeForms$Line" (3 : Nat) ({ cls := "java/lang/Object", name := "<init>", desc := "()V" } : Jvm.MethodName))), (9, (Jvm.Cond.fieldLink "ConeForms$Line" (9 : Nat) "ConeForms$Line" "characters" "[C")), (15, (Jvm.Cond.fieldLink "ConeForms$Line" (15 : Nat) "ConeForms$Line" "length" "I"))]
theorem amFL_ok : am_FLok amFL amWS amNW := am_FLof [24, 25, 27] (by decide +kernel) (by decide +kernel)
def amFS : List (Nat × Jvm.Cond) := [(3, (Jvm.Cond.methodLink "ConeForms$Script" (3 : Nat) ({ cls := "java/lang/Object", name := "<init>", desc := "()V" } : Jvm.MethodName))), (9, (Jvm.Cond.fieldLink "ConeForms$Script" (9 : Nat) "ConeForms$Script" "kinds" "[I")), (15, (Jvm.Cond.fieldLink "ConeForms$Script" (15 : Nat) "ConeForms$Script" "details" "[I")), (18, (Jvm.Cond.fieldLink "ConeForms$Script" (18 : Nat) "ConeForms$Script" "length" "I"))]
theorem amFS_ok : am_FLok amFS amWS amNW := am_FLof [41, 42, 44, 46] (by decide +kernel) (by decide +kernel)
def amFR : List (Nat × Jvm.Cond) := [(79, (Jvm.Cond.fieldLinkNest "ConeForms$Parser" (79 : Nat) "ConeForms$Line" "characters" "[C" "ConeForms")), (36, (Jvm.Cond.fieldLinkNest "ConeForms$Parser" (36 : Nat) "ConeForms$Line" "length" "I" "ConeForms")), (27, (Jvm.Cond.fieldLinkNest "ConeForms$Parser" (27 : Nat) "ConeForms$Script" "length" "I" "ConeForms")), (3, (Jvm.Cond.methodLink "ConeForms$Parser" (3 : Nat) ({ cls := "java/lang/Object", name := "<init>", desc := "()V" } : Jvm.MethodName))), (9, (Jvm.Cond.fieldLink "ConeForms$Parser" (9 : Nat) "ConeForms$Parser" "line" "LConeForms$Line;")), (15, (Jvm.Cond.fieldLink "ConeForms$Parser" (15 : Nat) "ConeForms$Parser" "script" "LConeForms$Script;")), (19, (Jvm.Cond.fieldLink "ConeForms$Parser" (19 : Nat) "ConeForms$Parser" "place" "I")), (23, (Jvm.Cond.fieldLink "ConeForms$Parser" (23 : Nat) "ConeForms$Parser" "broken" "Z")), (32, (Jvm.Cond.methodLink "ConeForms$Parser" (32 : Nat) ({ cls := "ConeForms$Parser", name := "parseExpression", desc := "(I)V" } : Jvm.MethodName))), (39, (Jvm.Cond.methodLink "ConeForms$Parser" (39 : Nat) ({ cls := "ConeForms$Parser", name := "parseTerm", desc := "(I)V" } : Jvm.MethodName))), (50, (Jvm.Cond.methodLink "ConeForms$Parser" (50 : Nat) ({ cls := "ConeForms$Parser", name := "parseFactor", desc := "(I)V" } : Jvm.MethodName))), (42, (Jvm.Cond.methodLink "ConeForms$Parser" (42 : Nat) ({ cls := "ConeForms$Parser", name := "ahead", desc := "()C" } : Jvm.MethodName))), (46, (Jvm.Cond.methodLinkNest "ConeForms$Parser" (46 : Nat) ({ cls := "ConeForms$Script", name := "add", desc := "(II)V" } : Jvm.MethodName) "ConeForms")), (53, (Jvm.Cond.methodLink "ConeForms$Parser" (53 : Nat) ({ cls := "ConeForms$Parser", name := "expect", desc := "(C)V" } : Jvm.MethodName))), (57, (Jvm.Cond.methodLink "ConeForms$Parser" (57 : Nat) ({ cls := "ConeForms$Parser", name := "isDigit", desc := "(C)Z" } : Jvm.MethodName))), (61, (Jvm.Cond.methodLink "ConeForms$Parser" (61 : Nat) ({ cls := "ConeForms$Parser", name := "parseDigits", desc := "(I)I" } : Jvm.MethodName))), (65, (Jvm.Cond.methodLink "ConeForms$Parser" (65 : Nat) ({ cls := "ConeForms$Parser", name := "functionOf", desc := "(C)I" } : Jvm.MethodName))), (69, (Jvm.Cond.methodLink "ConeForms$Parser" (69 : Nat) ({ cls := "ConeForms$Parser", name := "parseArguments", desc := "(II)V" } : Jvm.MethodName))), (75, (Jvm.Cond.fieldLinkNest "ConeForms$Parser" (75 : Nat) "ConeForms" "ARITY" "[I" "ConeForms")), (72, (Jvm.Cond.methodLink "ConeForms$Parser" (72 : Nat) ({ cls := "ConeForms$Parser", name := "parseLetter", desc := "(C)V" } : Jvm.MethodName)))]
theorem amFR_ok : am_FLok amFR amWS amNW := am_FLof [26, 28, 47, 62, 63, 64, 65, 66, 267, 271, 275, 279, 283, 287, 291, 294, 298, 301, 305, 307] (by decide +kernel) (by decide +kernel)
def amFB : List (Nat × Jvm.Cond) := [(33, (Jvm.Cond.fieldLinkNest "ConeForms$Builder" (33 : Nat) "ConeForms$Script" "kinds" "[I" "ConeForms")), (36, (Jvm.Cond.fieldLinkNest "ConeForms$Builder" (36 : Nat) "ConeForms$Script" "details" "[I" "ConeForms")), (28, (Jvm.Cond.fieldLinkNest "ConeForms$Builder" (28 : Nat) "ConeForms$Script" "length" "I" "ConeForms")), (19, (Jvm.Cond.fieldLinkNest "ConeForms$Builder" (19 : Nat) "ConeForms$Graph" "count" "I" "ConeForms")), (3, (Jvm.Cond.methodLink "ConeForms$Builder" (3 : Nat) ({ cls := "java/lang/Object", name := "<init>", desc := "()V" } : Jvm.MethodName))), (15, (Jvm.Cond.fieldLink "ConeForms$Builder" (15 : Nat) "ConeForms$Builder" "graph" "LConeForms$Graph;")), (9, (Jvm.Cond.fieldLink "ConeForms$Builder" (9 : Nat) "ConeForms$Builder" "stack" "[I")), (25, (Jvm.Cond.fieldLink "ConeForms$Builder" (25 : Nat) "ConeForms$Builder" "height" "I")), (39, (Jvm.Cond.methodLink "ConeForms$Builder" (39 : Nat) ({ cls := "ConeForms$Builder", name := "runStep", desc := "(III)I" } : Jvm.MethodName))), (47, (Jvm.Cond.fieldLinkNest "ConeForms$Builder" (47 : Nat) "ConeForms" "ARITY" "[I" "ConeForms")), (50, (Jvm.Cond.methodLink "ConeForms$Builder" (50 : Nat) ({ cls := "ConeForms$Builder", name := "pop", desc := "()I" } : Jvm.MethodName))), (54, (Jvm.Cond.methodLinkNest "ConeForms$Builder" (54 : Nat) ({ cls := "ConeForms$Graph", name := "obtain", desc := "(IIIII)I" } : Jvm.MethodName) "ConeForms")), (43, (Jvm.Cond.methodLink "ConeForms$Builder" (43 : Nat) ({ cls := "ConeForms$Builder", name := "push", desc := "(I)V" } : Jvm.MethodName)))]
theorem amFB_ok : am_FLok amFB amWS amNW := am_FLof [43, 45, 48, 103, 133, 134, 135, 136, 315, 319, 320, 324, 353] (by decide +kernel) (by decide +kernel)
def amFG : List (Nat × Jvm.Cond) := [(3, (Jvm.Cond.methodLink "ConeForms$Graph" (3 : Nat) ({ cls := "java/lang/Object", name := "<init>", desc := "()V" } : Jvm.MethodName))), (9, (Jvm.Cond.fieldLink "ConeForms$Graph" (9 : Nat) "ConeForms$Graph" "kind" "[I")), (15, (Jvm.Cond.fieldLink "ConeForms$Graph" (15 : Nat) "ConeForms$Graph" "detail" "[I")), (18, (Jvm.Cond.fieldLink "ConeForms$Graph" (18 : Nat) "ConeForms$Graph" "arguments" "[I")), (21, (Jvm.Cond.fieldLink "ConeForms$Graph" (21 : Nat) "ConeForms$Graph" "reach" "[I")), (24, (Jvm.Cond.fieldLink "ConeForms$Graph" (24 : Nat) "ConeForms$Graph" "sign" "[I")), (27, (Jvm.Cond.fieldLink "ConeForms$Graph" (27 : Nat) "ConeForms$Graph" "curvature" "[I")), (30, (Jvm.Cond.fieldLink "ConeForms$Graph" (30 : Nat) "ConeForms$Graph" "blame" "[I")), (33, (Jvm.Cond.fieldLink "ConeForms$Graph" (33 : Nat) "ConeForms$Graph" "culprit" "[I")), (36, (Jvm.Cond.fieldLink "ConeForms$Graph" (36 : Nat) "ConeForms$Graph" "value" "[I")), (39, (Jvm.Cond.fieldLink "ConeForms$Graph" (39 : Nat) "ConeForms$Graph" "count" "I")), (43, (Jvm.Cond.methodLink "ConeForms$Graph" (43 : Nat) ({ cls := "ConeForms$Graph", name := "find", desc := "(IIIII)I" } : Jvm.MethodName))), (53, (Jvm.Cond.methodLink "ConeForms$Graph" (53 : Nat) ({ cls := "ConeForms$Graph", name := "argument", desc := "(II)I" } : Jvm.MethodName))), (47, (Jvm.Cond.methodLink "ConeForms$Graph" (47 : Nat) ({ cls := "ConeForms$Graph", name := "wouldReach", desc := "(IIIII)J" } : Jvm.MethodName))), (57, (Jvm.Cond.methodLink "ConeForms$Graph" (57 : Nat) ({ cls := "ConeForms$Graph", name := "reachOrZero", desc := "(I)J" } : Jvm.MethodName))), (61, (Jvm.Cond.methodLink "ConeForms$Graph" (61 : Nat) ({ cls := "java/lang/Math", name := "max", desc := "(II)I" } : Jvm.MethodName))), (66, (Jvm.Cond.constantLong "ConeForms$Graph" (66 : Nat) (20 : Int64))), (68, (Jvm.Cond.constantLong "ConeForms$Graph" (68 : Nat) (9 : Int64))), (70, (Jvm.Cond.methodLink "ConeForms$Graph" (70 : Nat) ({ cls := "java/lang/Math", name := "max", desc := "(JJ)J" } : Jvm.MethodName))), (51, (Jvm.Cond.constantLong "ConeForms$Graph" (51 : Nat) (1000000 : Int64))), (73, (Jvm.Cond.methodLink "ConeForms$Graph" (73 : Nat) ({ cls := "ConeForms$Graph", name := "isInput", desc := "(I)Z" } : Jvm.MethodName))), (77, (Jvm.Cond.methodLink "ConeForms$Graph" (77 : Nat) ({ cls := "ConeForms$Graph", name := "calculate", desc := "(I)I" } : Jvm.MethodName))), (99, (Jvm.Cond.methodLink "ConeForms$Graph" (99 : Nat) ({ cls := "ConeForms$Graph", name := "argumentValue", desc := "(II)I" } : Jvm.MethodName))), (102, (Jvm.Cond.methodLink "ConeForms$Graph" (102 : Nat) ({ cls := "java/lang/Math", name := "min", desc := "(II)I" } : Jvm.MethodName))), (105, (Jvm.Cond.methodLink "ConeForms$Graph" (105 : Nat) ({ cls := "java/lang/Math", name := "abs", desc := "(I)I" } : Jvm.MethodName))), (81, (Jvm.Cond.methodLink "ConeForms$Graph" (81 : Nat) ({ cls := "ConeForms$Graph", name := "signOf", desc := "(I)I" } : Jvm.MethodName))), (108, (Jvm.Cond.methodLink "ConeForms$Graph" (108 : Nat) ({ cls := "ConeForms$Graph", name := "argumentSign", desc := "(II)I" } : Jvm.MethodName))), (111, (Jvm.Cond.methodLink "ConeForms$Graph" (111 : Nat) ({ cls := "ConeForms$Graph", name := "opposite", desc := "(I)I" } : Jvm.MethodName))), (114, (Jvm.Cond.methodLink "ConeForms$Graph" (114 : Nat) ({ cls := "ConeForms$Graph", name := "leafSign", desc := "(I)I" } : Jvm.MethodName))), (96, (Jvm.Cond.methodLink "ConeForms$Graph" (96 : Nat) ({ cls := "ConeForms$Graph", name := "greatest", desc := "(I)I" } : Jvm.MethodName))), (93, (Jvm.Cond.methodLink "ConeForms$Graph" (93 : Nat) ({ cls := "ConeForms$Graph", name := "least", desc := "(I)I" } : Jvm.MethodName))), (84, (Jvm.Cond.methodLink "ConeForms$Graph" (84 : Nat) ({ cls := "ConeForms$Graph", name := "curvatureOf", desc := "(I)I" } : Jvm.MethodName))), (117, (Jvm.Cond.fieldLinkNest "ConeForms$Graph" (117 : Nat) "ConeForms" "ARITY" "[I" "ConeForms")), (120, (Jvm.Cond.methodLink "ConeForms$Graph" (120 : Nat) ({ cls := "ConeForms$Graph", name := "mostBent", desc := "(I)I" } : Jvm.MethodName))), (123, (Jvm.Cond.methodLink "ConeForms$Graph" (123 : Nat) ({ cls := "ConeForms$Graph", name := "isProductOfTwo", desc := "(I)Z" } : Jvm.MethodName))), (126, (Jvm.Cond.methodLink "ConeForms$Graph" (126 : Nat) ({ cls := "ConeForms$Graph", name := "isLinear", desc := "(I)Z" } : Jvm.MethodName))), (129, (Jvm.Cond.methodLink "ConeForms$Graph" (129 : Nat) ({ cls := "ConeForms$Graph", name := "firstAgainst", desc := "(II)I" } : Jvm.MethodName))), (132, (Jvm.Cond.methodLink "ConeForms$Graph" (132 : Nat) ({ cls := "ConeForms$Graph", name := "admits", desc := "(III)Z" } : Jvm.MethodName))), (136, (Jvm.Cond.methodLink "ConeForms$Graph" (136 : Nat) ({ cls := "ConeForms$Graph", name := "slopeIn", desc := "(II)I" } : Jvm.MethodName))), (139, (Jvm.Cond.methodLink "ConeForms$Graph" (139 : Nat) ({ cls := "ConeForms$Graph", name := "slopeFor", desc := "(I)I" } : Jvm.MethodName))), (87, (Jvm.Cond.methodLink "ConeForms$Graph" (87 : Nat) ({ cls := "ConeForms$Graph", name := "culpritOf", desc := "(I)I" } : Jvm.MethodName))), (90, (Jvm.Cond.methodLink "ConeForms$Graph" (90 : Nat) ({ cls := "ConeForms$Graph", name := "blameOf", desc := "(I)I" } : Jvm.MethodName))), (142, (Jvm.Cond.methodLink "ConeForms$Graph" (142 : Nat) ({ cls := "ConeForms$Graph", name := "lastBent", desc := "(I)I" } : Jvm.MethodName)))]
theorem amFG_ok : am_FLok amFG amWS amNW := am_FLof [81, 82, 84, 85, 86, 88, 90, 94, 96, 99, 104, 328, 332, 336, 340, 344, 347, 348, 349, 352, 361, 365, 369, 373, 376, 379, 383, 387, 390, 394, 398, 402, 406, 407, 411, 415, 419, 423, 427, 431, 434, 438, 442] (by decide +kernel) (by decide +kernel)
def amFP : List (Nat × Jvm.Cond) := [(42, (Jvm.Cond.fieldLinkNest "ConeForms$Problem" (42 : Nat) "ConeForms$Graph" "curvature" "[I" "ConeForms")), (45, (Jvm.Cond.fieldLinkNest "ConeForms$Problem" (45 : Nat) "ConeForms$Graph" "culprit" "[I" "ConeForms")), (33, (Jvm.Cond.fieldLinkNest "ConeForms$Problem" (33 : Nat) "ConeForms$Graph" "value" "[I" "ConeForms")), (3, (Jvm.Cond.methodLink "ConeForms$Problem" (3 : Nat) ({ cls := "java/lang/Object", name := "<init>", desc := "()V" } : Jvm.MethodName))), (9, (Jvm.Cond.fieldLink "ConeForms$Problem" (9 : Nat) "ConeForms$Problem" "same" "[Z")), (15, (Jvm.Cond.fieldLink "ConeForms$Problem" (15 : Nat) "ConeForms$Problem" "left" "[I")), (19, (Jvm.Cond.fieldLink "ConeForms$Problem" (19 : Nat) "ConeForms$Problem" "right" "[I")), (30, (Jvm.Cond.fieldLink "ConeForms$Problem" (30 : Nat) "ConeForms$Problem" "count" "I")), (22, (Jvm.Cond.fieldLink "ConeForms$Problem" (22 : Nat) "ConeForms$Problem" "target" "I")), (26, (Jvm.Cond.fieldLink "ConeForms$Problem" (26 : Nat) "ConeForms$Problem" "toBeLeast" "Z")), (38, (Jvm.Cond.methodLink "ConeForms$Problem" (38 : Nat) ({ cls := "ConeForms$Problem", name := "guiltOf", desc := "(LConeForms$Graph;II)I" } : Jvm.MethodName)))]
theorem amFP_ok : am_FLok amFP amWS amNW := am_FLof [93, 97, 100, 149, 150, 152, 154, 156, 158, 161, 521] (by decide +kernel) (by decide +kernel)
def amFF : List (Nat × Jvm.Cond) := [(83, (Jvm.Cond.fieldLinkNest "ConeForms$Form" (83 : Nat) "ConeForms$Graph" "kind" "[I" "ConeForms")), (90, (Jvm.Cond.fieldLinkNest "ConeForms$Form" (90 : Nat) "ConeForms$Graph" "curvature" "[I" "ConeForms")), (113, (Jvm.Cond.fieldLinkNest "ConeForms$Form" (113 : Nat) "ConeForms$Graph" "value" "[I" "ConeForms")), (77, (Jvm.Cond.fieldLinkNest "ConeForms$Form" (77 : Nat) "ConeForms$Graph" "count" "I" "ConeForms")), (104, (Jvm.Cond.fieldLinkNest "ConeForms$Form" (104 : Nat) "ConeForms$Problem" "same" "[Z" "ConeForms")), (71, (Jvm.Cond.fieldLinkNest "ConeForms$Form" (71 : Nat) "ConeForms$Problem" "left" "[I" "ConeForms")), (74, (Jvm.Cond.fieldLinkNest "ConeForms$Form" (74 : Nat) "ConeForms$Problem" "right" "[I" "ConeForms")), (68, (Jvm.Cond.fieldLinkNest "ConeForms$Form" (68 : Nat) "ConeForms$Problem" "count" "I" "ConeForms")), (63, (Jvm.Cond.fieldLinkNest "ConeForms$Form" (63 : Nat) "ConeForms$Problem" "target" "I" "ConeForms")), (130, (Jvm.Cond.fieldLinkNest "ConeForms$Form" (130 : Nat) "ConeForms$Problem" "toBeLeast" "Z" "ConeForms")), (3, (Jvm.Cond.methodLink "ConeForms$Form" (3 : Nat) ({ cls := "java/lang/Object", name := "<init>", desc := "()V" } : Jvm.MethodName))), (35, (Jvm.Cond.fieldLink "ConeForms$Form" (35 : Nat) "ConeForms$Form" "graph" "LConeForms$Graph;")), (39, (Jvm.Cond.fieldLink "ConeForms$Form" (39 : Nat) "ConeForms$Form" "problem" "LConeForms$Problem;")), (9, (Jvm.Cond.fieldLink "ConeForms$Form" (9 : Nat) "ConeForms$Form" "used" "[Z")), (15, (Jvm.Cond.fieldLink "ConeForms$Form" (15 : Nat) "ConeForms$Form" "columnOf" "[I")), (19, (Jvm.Cond.fieldLink "ConeForms$Form" (19 : Nat) "ConeForms$Form" "own" "[I")), (22, (Jvm.Cond.fieldLink "ConeForms$Form" (22 : Nat) "ConeForms$Form" "coneRows" "[I")), (25, (Jvm.Cond.fieldLink "ConeForms$Form" (25 : Nat) "ConeForms$Form" "rowOwner" "[I")), (28, (Jvm.Cond.fieldLink "ConeForms$Form" (28 : Nat) "ConeForms$Form" "rowPlace" "[I")), (31, (Jvm.Cond.fieldLink "ConeForms$Form" (31 : Nat) "ConeForms$Form" "spread" "[J")), (47, (Jvm.Cond.fieldLink "ConeForms$Form" (47 : Nat) "ConeForms$Form" "rowCount" "I")), (51, (Jvm.Cond.fieldLink "ConeForms$Form" (51 : Nat) "ConeForms$Form" "columns" "I")), (43, (Jvm.Cond.fieldLink "ConeForms$Form" (43 : Nat) "ConeForms$Form" "stands" "Z")), (93, (Jvm.Cond.methodLink "ConeForms$Form" (93 : Nat) ({ cls := "ConeForms$Form", name := "isAuxiliary", desc := "(I)Z" } : Jvm.MethodName))), (111, (Jvm.Cond.constant "ConeForms$Form" (111 : Nat) (-1000000 : Int32))), (112, (Jvm.Cond.constant "ConeForms$Form" (112 : Nat) (1000000 : Int32))), (54, (Jvm.Cond.methodLink "ConeForms$Form" (54 : Nat) ({ cls := "ConeForms$Form", name := "markUsed", desc := "()V" } : Jvm.MethodName))), (80, (Jvm.Cond.fieldLinkNest "ConeForms$Form" (80 : Nat) "ConeForms" "ARITY" "[I" "ConeForms")), (86, (Jvm.Cond.methodLinkNest "ConeForms$Form" (86 : Nat) ({ cls := "ConeForms$Graph", name := "argument", desc := "(II)I" } : Jvm.MethodName) "ConeForms")), (57, (Jvm.Cond.methodLink "ConeForms$Form" (57 : Nat) ({ cls := "ConeForms$Form", name := "numberColumns", desc := "()V" } : Jvm.MethodName))), (60, (Jvm.Cond.methodLink "ConeForms$Form" (60 : Nat) ({ cls := "ConeForms$Form", name := "numberRows", desc := "()V" } : Jvm.MethodName))), (97, (Jvm.Cond.methodLink "ConeForms$Form" (97 : Nat) ({ cls := "ConeForms$Form", name := "addRequirementRows", desc := "(Z)V" } : Jvm.MethodName))), (107, (Jvm.Cond.methodLink "ConeForms$Form" (107 : Nat) ({ cls := "ConeForms$Form", name := "addRow", desc := "(II)V" } : Jvm.MethodName))), (101, (Jvm.Cond.methodLink "ConeForms$Form" (101 : Nat) ({ cls := "ConeForms$Form", name := "addAuxiliaryRows", desc := "(Z)V" } : Jvm.MethodName))), (116, (Jvm.Cond.methodLink "ConeForms$Form" (116 : Nat) ({ cls := "ConeForms$Form", name := "expand", desc := "(I)V" } : Jvm.MethodName))), (124, (Jvm.Cond.methodLink "ConeForms$Form" (124 : Nat) ({ cls := "ConeForms$Form", name := "expandNode", desc := "(II)J" } : Jvm.MethodName))), (127, (Jvm.Cond.methodLink "ConeForms$Form" (127 : Nat) ({ cls := "ConeForms$Form", name := "expandColumn", desc := "(II)J" } : Jvm.MethodName))), (120, (Jvm.Cond.methodLink "ConeForms$Form" (120 : Nat) ({ cls := "ConeForms$Form", name := "rowNumber", desc := "(II)J" } : Jvm.MethodName))), (133, (Jvm.Cond.methodLink "ConeForms$Form" (133 : Nat) ({ cls := "ConeForms$Form", name := "auxiliaryRow", desc := "(III)J" } : Jvm.MethodName))), (137, (Jvm.Cond.methodLink "ConeForms$Form" (137 : Nat) ({ cls := "ConeForms$Form", name := "argumentSpread", desc := "(II)J" } : Jvm.MethodName))), (140, (Jvm.Cond.methodLink "ConeForms$Form" (140 : Nat) ({ cls := "ConeForms$Form", name := "squareRow", desc := "(JJII)J" } : Jvm.MethodName))), (144, (Jvm.Cond.constantLong "ConeForms$Form" (144 : Nat) (2 : Int64))), (146, (Jvm.Cond.methodLink "ConeForms$Form" (146 : Nat) ({ cls := "ConeForms$Form", name := "squareFits", desc := "(I)Z" } : Jvm.MethodName)))]
theorem amFF_ok : am_FLok amFF amWS amNW := am_FLof [83, 92, 102, 106, 151, 153, 155, 157, 159, 162, 182, 183, 184, 185, 186, 188, 189, 191, 192, 193, 194, 195, 197, 475, 479, 480, 528, 532, 533, 534, 538, 542, 546, 550, 574, 578, 582, 586, 590, 594, 598, 601, 622] (by decide +kernel) (by decide +kernel)
def amFm : List (Nat × Jvm.Cond) := [(1, (Jvm.Cond.methodLink "ConeFormsModel" (1 : Nat) ({ cls := "java/lang/Object", name := "<init>", desc := "()V" } : Jvm.MethodName))), (7, (Jvm.Cond.fieldLink "ConeFormsModel" (7 : Nat) "ConeFormsModel" "line" "[I")), (91, (Jvm.Cond.fieldLink "ConeFormsModel" (91 : Nat) "ConeFormsModel" "length" "I")), (116, (Jvm.Cond.fieldLink "ConeFormsModel" (116 : Nat) "ConeFormsModel" "mode" "I")), (113, (Jvm.Cond.fieldLink "ConeFormsModel" (113 : Nat) "ConeFormsModel" "digits" "I")), (104, (Jvm.Cond.fieldLink "ConeFormsModel" (104 : Nat) "ConeFormsModel" "numberAt" "I")), (97, (Jvm.Cond.fieldLink "ConeFormsModel" (97 : Nat) "ConeFormsModel" "tops" "I")), (13, (Jvm.Cond.fieldLink "ConeFormsModel" (13 : Nat) "ConeFormsModel" "top" "[I")), (16, (Jvm.Cond.fieldLink "ConeFormsModel" (16 : Nat) "ConeFormsModel" "commas" "[I")), (94, (Jvm.Cond.fieldLink "ConeFormsModel" (94 : Nat) "ConeFormsModel" "outs" "I")), (19, (Jvm.Cond.fieldLink "ConeFormsModel" (19 : Nat) "ConeFormsModel" "outKind" "[I")), (22, (Jvm.Cond.fieldLink "ConeFormsModel" (22 : Nat) "ConeFormsModel" "outNumber" "[I")), (25, (Jvm.Cond.fieldLink "ConeFormsModel" (25 : Nat) "ConeFormsModel" "taken" "[I")), (145, (Jvm.Cond.fieldLink "ConeFormsModel" (145 : Nat) "ConeFormsModel" "count" "I")), (28, (Jvm.Cond.fieldLink "ConeFormsModel" (28 : Nat) "ConeFormsModel" "kind" "[I")), (31, (Jvm.Cond.fieldLink "ConeFormsModel" (31 : Nat) "ConeFormsModel" "number" "[I")), (34, (Jvm.Cond.fieldLink "ConeFormsModel" (34 : Nat) "ConeFormsModel" "argument" "[I")), (37, (Jvm.Cond.fieldLink "ConeFormsModel" (37 : Nat) "ConeFormsModel" "reaches" "[J")), (41, (Jvm.Cond.fieldLink "ConeFormsModel" (41 : Nat) "ConeFormsModel" "given" "[I")), (44, (Jvm.Cond.fieldLink "ConeFormsModel" (44 : Nat) "ConeFormsModel" "above" "[Z")), (48, (Jvm.Cond.fieldLink "ConeFormsModel" (48 : Nat) "ConeFormsModel" "below" "[Z")), (51, (Jvm.Cond.fieldLink "ConeFormsModel" (51 : Nat) "ConeFormsModel" "curve" "[I")), (54, (Jvm.Cond.fieldLink "ConeFormsModel" (54 : Nat) "ConeFormsModel" "blame" "[I")), (57, (Jvm.Cond.fieldLink "ConeFormsModel" (57 : Nat) "ConeFormsModel" "worth" "[I")), (60, (Jvm.Cond.fieldLink "ConeFormsModel" (60 : Nat) "ConeFormsModel" "used" "[Z")), (63, (Jvm.Cond.fieldLink "ConeFormsModel" (63 : Nat) "ConeFormsModel" "met" "[Z")), (66, (Jvm.Cond.fieldLink "ConeFormsModel" (66 : Nat) "ConeFormsModel" "walkNode" "[I")), (69, (Jvm.Cond.fieldLink "ConeFormsModel" (69 : Nat) "ConeFormsModel" "walkNext" "[I")), (72, (Jvm.Cond.fieldLink "ConeFormsModel" (72 : Nat) "ConeFormsModel" "linear" "[J")), (75, (Jvm.Cond.fieldLink "ConeFormsModel" (75 : Nat) "ConeFormsModel" "goal" "I")), (209, (Jvm.Cond.fieldLink "ConeFormsModel" (209 : Nat) "ConeFormsModel" "goalLeast" "Z")), (216, (Jvm.Cond.fieldLink "ConeFormsModel" (216 : Nat) "ConeFormsModel" "requirements" "I")), (79, (Jvm.Cond.fieldLink "ConeFormsModel" (79 : Nat) "ConeFormsModel" "exact" "[Z")), (82, (Jvm.Cond.fieldLink "ConeFormsModel" (82 : Nat) "ConeFormsModel" "left" "[I")), (85, (Jvm.Cond.fieldLink "ConeFormsModel" (85 : Nat) "ConeFormsModel" "right" "[I")), (213, (Jvm.Cond.fieldLink "ConeFormsModel" (213 : Nat) "ConeFormsModel" "stands" "Z")), (88, (Jvm.Cond.fieldLink "ConeFormsModel" (88 : Nat) "ConeFormsModel" "own" "[I")), (161, (Jvm.Cond.methodLink "ConeFormsModel" (161 : Nat) ({ cls := "ConeFormsModel", name := "parse", desc := "()I" } : Jvm.MethodName))), (138, (Jvm.Cond.methodLink "ConeFormsModel" (138 : Nat) ({ cls := "ConeFormsModel", name := "accept", desc := "(I)Z" } : Jvm.MethodName))), (110, (Jvm.Cond.methodLink "ConeFormsModel" (110 : Nat) ({ cls := "ConeFormsModel", name := "operand", desc := "(II)V" } : Jvm.MethodName))), (100, (Jvm.Cond.methodLink "ConeFormsModel" (100 : Nat) ({ cls := "ConeFormsModel", name := "emit", desc := "(II)V" } : Jvm.MethodName))), (107, (Jvm.Cond.methodLink "ConeFormsModel" (107 : Nat) ({ cls := "ConeFormsModel", name := "negations", desc := "()V" } : Jvm.MethodName))), (131, (Jvm.Cond.methodLink "ConeFormsModel" (131 : Nat) ({ cls := "ConeFormsModel", name := "begin", desc := "(I)Z" } : Jvm.MethodName))), (119, (Jvm.Cond.methodLink "ConeFormsModel" (119 : Nat) ({ cls := "ConeFormsModel", name := "open", desc := "(I)V" } : Jvm.MethodName))), (135, (Jvm.Cond.methodLink "ConeFormsModel" (135 : Nat) ({ cls := "ConeFormsModel", name := "follow", desc := "(I)Z" } : Jvm.MethodName))), (123, (Jvm.Cond.methodLink "ConeFormsModel" (123 : Nat) ({ cls := "ConeFormsModel", name := "unwind", desc := "(Z)V" } : Jvm.MethodName))), (127, (Jvm.Cond.methodLink "ConeFormsModel" (127 : Nat) ({ cls := "ConeFormsModel", name := "commasOf", desc := "(I)I" } : Jvm.MethodName))), (165, (Jvm.Cond.methodLink "ConeFormsModel" (165 : Nat) ({ cls := "ConeFormsModel", name := "build", desc := "(I)I" } : Jvm.MethodName))), (154, (Jvm.Cond.methodLink "ConeFormsModel" (154 : Nat) ({ cls := "ConeFormsModel", name := "arity", desc := "(I)I" } : Jvm.MethodName))), (157, (Jvm.Cond.methodLink "ConeFormsModel" (157 : Nat) ({ cls := "ConeFormsModel", name := "make", desc := "(IIIII)I" } : Jvm.MethodName))), (148, (Jvm.Cond.methodLink "ConeFormsModel" (148 : Nat) ({ cls := "ConeFormsModel", name := "reachOf", desc := "(IIIII)J" } : Jvm.MethodName))), (141, (Jvm.Cond.constantLong "ConeFormsModel" (141 : Nat) (20 : Int64))), (143, (Jvm.Cond.constantLong "ConeFormsModel" (143 : Nat) (9 : Int64))), (152, (Jvm.Cond.constantLong "ConeFormsModel" (152 : Nat) (1000000 : Int64))), (200, (Jvm.Cond.methodLink "ConeFormsModel" (200 : Nat) ({ cls := "ConeFormsModel", name := "work", desc := "()V" } : Jvm.MethodName))), (186, (Jvm.Cond.methodLink "ConeFormsModel" (186 : Nat) ({ cls := "ConeFormsModel", name := "signs", desc := "(IIII)V" } : Jvm.MethodName))), (190, (Jvm.Cond.methodLink "ConeFormsModel" (190 : Nat) ({ cls := "ConeFormsModel", name := "worthOf", desc := "(IIII)I" } : Jvm.MethodName))), (168, (Jvm.Cond.methodLink "ConeFormsModel" (168 : Nat) ({ cls := "ConeFormsModel", name := "greater", desc := "(II)I" } : Jvm.MethodName))), (194, (Jvm.Cond.methodLink "ConeFormsModel" (194 : Nat) ({ cls := "ConeFormsModel", name := "curveOf", desc := "(I)I" } : Jvm.MethodName))), (179, (Jvm.Cond.methodLink "ConeFormsModel" (179 : Nat) ({ cls := "ConeFormsModel", name := "having", desc := "(III)I" } : Jvm.MethodName))), (183, (Jvm.Cond.methodLink "ConeFormsModel" (183 : Nat) ({ cls := "ConeFormsModel", name := "firstNot", desc := "(II)I" } : Jvm.MethodName))), (175, (Jvm.Cond.methodLink "ConeFormsModel" (175 : Nat) ({ cls := "ConeFormsModel", name := "admits", desc := "(III)Z" } : Jvm.MethodName))), (172, (Jvm.Cond.methodLink "ConeFormsModel" (172 : Nat) ({ cls := "ConeFormsModel", name := "trend", desc := "(II)I" } : Jvm.MethodName))), (197, (Jvm.Cond.methodLink "ConeFormsModel" (197 : Nat) ({ cls := "ConeFormsModel", name := "blameOf", desc := "(I)I" } : Jvm.MethodName))), (203, (Jvm.Cond.methodLink "ConeFormsModel" (203 : Nat) ({ cls := "ConeFormsModel", name := "isNode", desc := "(I)Z" } : Jvm.MethodName))), (206, (Jvm.Cond.methodLink "ConeFormsModel" (206 : Nat) ({ cls := "ConeFormsModel", name := "walk", desc := "(I)I" } : Jvm.MethodName))), (223, (Jvm.Cond.methodLink "ConeFormsModel" (223 : Nat) ({ cls := "ConeFormsModel", name := "wrongPart", desc := "()I" } : Jvm.MethodName))), (219, (Jvm.Cond.methodLink "ConeFormsModel" (219 : Nat) ({ cls := "ConeFormsModel", name := "good", desc := "(II)Z" } : Jvm.MethodName))), (226, (Jvm.Cond.methodLink "ConeFormsModel" (226 : Nat) ({ cls := "ConeFormsModel", name := "mark", desc := "()V" } : Jvm.MethodName))), (229, (Jvm.Cond.methodLink "ConeFormsModel" (229 : Nat) ({ cls := "ConeFormsModel", name := "columns", desc := "()I" } : Jvm.MethodName))), (232, (Jvm.Cond.methodLink "ConeFormsModel" (232 : Nat) ({ cls := "ConeFormsModel", name := "variable", desc := "(I)Z" } : Jvm.MethodName))), (235, (Jvm.Cond.methodLink "ConeFormsModel" (235 : Nat) ({ cls := "ConeFormsModel", name := "auxiliary", desc := "(I)Z" } : Jvm.MethodName))), (238, (Jvm.Cond.methodLink "ConeFormsModel" (238 : Nat) ({ cls := "ConeFormsModel", name := "place", desc := "(I)I" } : Jvm.MethodName))), (248, (Jvm.Cond.methodLink "ConeFormsModel" (248 : Nat) ({ cls := "ConeFormsModel", name := "rowCount", desc := "(I)I" } : Jvm.MethodName))), (245, (Jvm.Cond.methodLink "ConeFormsModel" (245 : Nat) ({ cls := "ConeFormsModel", name := "rowsOf", desc := "(I)I" } : Jvm.MethodName))), (256, (Jvm.Cond.methodLink "ConeFormsModel" (256 : Nat) ({ cls := "ConeFormsModel", name := "allRows", desc := "()I" } : Jvm.MethodName))), (259, (Jvm.Cond.methodLink "ConeFormsModel" (259 : Nat) ({ cls := "ConeFormsModel", name := "expand", desc := "(I)V" } : Jvm.MethodName))), (241, (Jvm.Cond.methodLink "ConeFormsModel" (241 : Nat) ({ cls := "ConeFormsModel", name := "chosen", desc := "(II)J" } : Jvm.MethodName))), (262, (Jvm.Cond.methodLink "ConeFormsModel" (262 : Nat) ({ cls := "ConeFormsModel", name := "rowValue", desc := "(I)J" } : Jvm.MethodName))), (253, (Jvm.Cond.methodLink "ConeFormsModel" (253 : Nat) ({ cls := "ConeFormsModel", name := "rowOf", desc := "(II)J" } : Jvm.MethodName))), (251, (Jvm.Cond.constantLong "ConeFormsModel" (251 : Nat) (2 : Int64))), (266, (Jvm.Cond.constant "ConeFormsModel" (266 : Nat) (1000000 : Int32))), (267, (Jvm.Cond.methodLink "ConeFormsModel" (267 : Nat) ({ cls := "ConeFormsModel", name := "inside", desc := "(JJJ)Z" } : Jvm.MethodName)))]
theorem amFm_ok : am_FLok amFm amWS amNW := am_FLof [647, 648, 649, 650, 651, 652, 653, 654, 655, 656, 657, 658, 659, 660, 661, 662, 663, 664, 665, 666, 667, 668, 669, 670, 671, 672, 673, 674, 675, 676, 677, 678, 679, 680, 681, 682, 683, 769, 773, 777, 781, 785, 789, 793, 797, 801, 805, 808, 812, 815, 819, 823, 824, 825, 834, 838, 842, 846, 849, 853, 857, 861, 865, 869, 873, 889, 913, 917, 921, 925, 929, 933, 941, 949, 953, 960, 964, 968, 972, 976, 980, 985, 994] (by decide +kernel) (by decide +kernel)
def amAW : List Jvm.Cond := [Jvm.Cond.arrayClass Jvm.ClassFile.FieldType.char, Jvm.Cond.arrayClass Jvm.ClassFile.FieldType.int, Jvm.Cond.arrayClass Jvm.ClassFile.FieldType.boolean, Jvm.Cond.arrayClass Jvm.ClassFile.FieldType.long]
theorem amAW_ok : ∀ w ∈ amAW, w ∈ amWS := by
  intro w hw
  simp only [amAW, List.mem_cons, List.not_mem_nil, or_false] at hw
  rcases hw with rfl | rfl | rfl | rfl
  · exact am_tm 35 (by decide +kernel) rfl
  · exact am_tm 56 (by decide +kernel) rfl
  · exact am_tm 176 (by decide +kernel) rfl
  · exact am_tm 224 (by decide +kernel) rfl
def amST : List (String × String × String × Nat) := [("ConeForms", "ARITY", "[I", 1)]
def amT0 : u_T := fun k => match k with
  | 0 => ("ConeForms", "line", "LConeForms$Line;", true)
  | 1 => ("ConeForms", "script", "LConeForms$Script;", true)
  | 2 => ("ConeForms", "parser", "LConeForms$Parser;", true)
  | 3 => ("ConeForms", "graph", "LConeForms$Graph;", true)
  | 4 => ("ConeForms", "builder", "LConeForms$Builder;", true)
  | 5 => ("ConeForms", "problem", "LConeForms$Problem;", true)
  | _ => ("ConeForms", "form", "LConeForms$Form;", true)
def amY0 : Nat → FieldType := fun k => match k with
  | 0 => (.object "ConeForms$Line")
  | 1 => (.object "ConeForms$Script")
  | 2 => (.object "ConeForms$Parser")
  | 3 => (.object "ConeForms$Graph")
  | 4 => (.object "ConeForms$Builder")
  | 5 => (.object "ConeForms$Problem")
  | _ => (.object "ConeForms$Form")
def amD0 : List Value := [.null, .null, .null, .null, .null, .null, .null]
def amT1 : u_T := fun k => match k with
  | 0 => ("ConeForms$Line", "characters", "[C", true)
  | _ => ("ConeForms$Line", "length", "I", false)
def amY1 : Nat → FieldType := fun k => match k with
  | 0 => (.array .char)
  | _ => .int
def amD1 : List Value := [.null, .int 0]
def amT2 : u_T := fun k => match k with
  | 0 => ("ConeForms$Script", "kinds", "[I", true)
  | 1 => ("ConeForms$Script", "details", "[I", true)
  | _ => ("ConeForms$Script", "length", "I", false)
def amY2 : Nat → FieldType := fun k => match k with
  | 0 => (.array .int)
  | 1 => (.array .int)
  | _ => .int
def amD2 : List Value := [.null, .null, .int 0]
def amT3 : u_T := fun k => match k with
  | 0 => ("ConeForms$Parser", "line", "LConeForms$Line;", true)
  | 1 => ("ConeForms$Parser", "script", "LConeForms$Script;", true)
  | 2 => ("ConeForms$Parser", "place", "I", false)
  | _ => ("ConeForms$Parser", "broken", "Z", false)
def amY3 : Nat → FieldType := fun k => match k with
  | 0 => (.object "ConeForms$Line")
  | 1 => (.object "ConeForms$Script")
  | 2 => .int
  | _ => .boolean
def amD3 : List Value := [.null, .null, .int 0, .int 0]
def amT4 : u_T := fun k => match k with
  | 0 => ("ConeForms$Builder", "graph", "LConeForms$Graph;", true)
  | 1 => ("ConeForms$Builder", "stack", "[I", true)
  | _ => ("ConeForms$Builder", "height", "I", false)
def amY4 : Nat → FieldType := fun k => match k with
  | 0 => (.object "ConeForms$Graph")
  | 1 => (.array .int)
  | _ => .int
def amD4 : List Value := [.null, .null, .int 0]
def amT5 : u_T := fun k => match k with
  | 0 => ("ConeForms$Graph", "kind", "[I", true)
  | 1 => ("ConeForms$Graph", "detail", "[I", true)
  | 2 => ("ConeForms$Graph", "arguments", "[I", true)
  | 3 => ("ConeForms$Graph", "reach", "[I", true)
  | 4 => ("ConeForms$Graph", "sign", "[I", true)
  | 5 => ("ConeForms$Graph", "curvature", "[I", true)
  | 6 => ("ConeForms$Graph", "blame", "[I", true)
  | 7 => ("ConeForms$Graph", "culprit", "[I", true)
  | 8 => ("ConeForms$Graph", "value", "[I", true)
  | _ => ("ConeForms$Graph", "count", "I", false)
def amY5 : Nat → FieldType := fun k => match k with
  | 0 => (.array .int)
  | 1 => (.array .int)
  | 2 => (.array .int)
  | 3 => (.array .int)
  | 4 => (.array .int)
  | 5 => (.array .int)
  | 6 => (.array .int)
  | 7 => (.array .int)
  | 8 => (.array .int)
  | _ => .int
def amD5 : List Value := [.null, .null, .null, .null, .null, .null, .null, .null, .null, .int 0]
def amT6 : u_T := fun k => match k with
  | 0 => ("ConeForms$Problem", "same", "[Z", true)
  | 1 => ("ConeForms$Problem", "left", "[I", true)
  | 2 => ("ConeForms$Problem", "right", "[I", true)
  | 3 => ("ConeForms$Problem", "count", "I", false)
  | 4 => ("ConeForms$Problem", "target", "I", false)
  | _ => ("ConeForms$Problem", "toBeLeast", "Z", false)
def amY6 : Nat → FieldType := fun k => match k with
  | 0 => (.array .boolean)
  | 1 => (.array .int)
  | 2 => (.array .int)
  | 3 => .int
  | 4 => .int
  | _ => .boolean
def amD6 : List Value := [.null, .null, .null, .int 0, .int 0, .int 0]
def amT7 : u_T := fun k => match k with
  | 0 => ("ConeForms$Form", "graph", "LConeForms$Graph;", true)
  | 1 => ("ConeForms$Form", "problem", "LConeForms$Problem;", true)
  | 2 => ("ConeForms$Form", "used", "[Z", true)
  | 3 => ("ConeForms$Form", "columnOf", "[I", true)
  | 4 => ("ConeForms$Form", "own", "[I", true)
  | 5 => ("ConeForms$Form", "coneRows", "[I", true)
  | 6 => ("ConeForms$Form", "rowOwner", "[I", true)
  | 7 => ("ConeForms$Form", "rowPlace", "[I", true)
  | 8 => ("ConeForms$Form", "spread", "[J", true)
  | 9 => ("ConeForms$Form", "rowCount", "I", false)
  | 10 => ("ConeForms$Form", "columns", "I", false)
  | _ => ("ConeForms$Form", "stands", "Z", false)
def amY7 : Nat → FieldType := fun k => match k with
  | 0 => (.object "ConeForms$Graph")
  | 1 => (.object "ConeForms$Problem")
  | 2 => (.array .boolean)
  | 3 => (.array .int)
  | 4 => (.array .int)
  | 5 => (.array .int)
  | 6 => (.array .int)
  | 7 => (.array .int)
  | 8 => (.array .long)
  | 9 => .int
  | 10 => .int
  | _ => .boolean
def amD7 : List Value := [.null, .null, .null, .null, .null, .null, .null, .null, .null, .int 0, .int 0, .int 0]
def amT8 : u_T := fun k => match k with
  | 0 => ("ConeFormsModel", "line", "[I", true)
  | 1 => ("ConeFormsModel", "length", "I", false)
  | 2 => ("ConeFormsModel", "mode", "I", false)
  | 3 => ("ConeFormsModel", "digits", "I", false)
  | 4 => ("ConeFormsModel", "numberAt", "I", false)
  | 5 => ("ConeFormsModel", "tops", "I", false)
  | 6 => ("ConeFormsModel", "top", "[I", true)
  | 7 => ("ConeFormsModel", "commas", "[I", true)
  | 8 => ("ConeFormsModel", "outs", "I", false)
  | 9 => ("ConeFormsModel", "outKind", "[I", true)
  | 10 => ("ConeFormsModel", "outNumber", "[I", true)
  | 11 => ("ConeFormsModel", "taken", "[I", true)
  | 12 => ("ConeFormsModel", "count", "I", false)
  | 13 => ("ConeFormsModel", "kind", "[I", true)
  | 14 => ("ConeFormsModel", "number", "[I", true)
  | 15 => ("ConeFormsModel", "argument", "[I", true)
  | 16 => ("ConeFormsModel", "reaches", "[J", true)
  | 17 => ("ConeFormsModel", "given", "[I", true)
  | 18 => ("ConeFormsModel", "above", "[Z", true)
  | 19 => ("ConeFormsModel", "below", "[Z", true)
  | 20 => ("ConeFormsModel", "curve", "[I", true)
  | 21 => ("ConeFormsModel", "blame", "[I", true)
  | 22 => ("ConeFormsModel", "worth", "[I", true)
  | 23 => ("ConeFormsModel", "used", "[Z", true)
  | 24 => ("ConeFormsModel", "met", "[Z", true)
  | 25 => ("ConeFormsModel", "walkNode", "[I", true)
  | 26 => ("ConeFormsModel", "walkNext", "[I", true)
  | 27 => ("ConeFormsModel", "linear", "[J", true)
  | 28 => ("ConeFormsModel", "goal", "I", false)
  | 29 => ("ConeFormsModel", "goalLeast", "Z", false)
  | 30 => ("ConeFormsModel", "requirements", "I", false)
  | 31 => ("ConeFormsModel", "exact", "[Z", true)
  | 32 => ("ConeFormsModel", "left", "[I", true)
  | 33 => ("ConeFormsModel", "right", "[I", true)
  | 34 => ("ConeFormsModel", "stands", "Z", false)
  | _ => ("ConeFormsModel", "own", "[I", true)
def amY8 : Nat → FieldType := fun k => match k with
  | 0 => (.array .int)
  | 1 => .int
  | 2 => .int
  | 3 => .int
  | 4 => .int
  | 5 => .int
  | 6 => (.array .int)
  | 7 => (.array .int)
  | 8 => .int
  | 9 => (.array .int)
  | 10 => (.array .int)
  | 11 => (.array .int)
  | 12 => .int
  | 13 => (.array .int)
  | 14 => (.array .int)
  | 15 => (.array .int)
  | 16 => (.array .long)
  | 17 => (.array .int)
  | 18 => (.array .boolean)
  | 19 => (.array .boolean)
  | 20 => (.array .int)
  | 21 => (.array .int)
  | 22 => (.array .int)
  | 23 => (.array .boolean)
  | 24 => (.array .boolean)
  | 25 => (.array .int)
  | 26 => (.array .int)
  | 27 => (.array .long)
  | 28 => .int
  | 29 => .boolean
  | 30 => .int
  | 31 => (.array .boolean)
  | 32 => (.array .int)
  | 33 => (.array .int)
  | 34 => .boolean
  | _ => (.array .int)
def amD8 : List Value := [.null, .int 0, .int 0, .int 0, .int 0, .int 0, .null, .null, .int 0, .null, .null, .null, .int 0, .null, .null, .null, .null, .null, .null, .null, .null, .null, .null, .null, .null, .null, .null, .null, .int 0, .int 0, .int 0, .null, .null, .null, .int 0, .null]
def amCl : List vw_C := [("ConeForms", amT0, 7), ("ConeForms$Line", amT1, 2), ("ConeForms$Script", amT2, 3), ("ConeForms$Parser", amT3, 4), ("ConeForms$Builder", amT4, 3), ("ConeForms$Graph", amT5, 10), ("ConeForms$Problem", amT6, 6), ("ConeForms$Form", amT7, 12), ("ConeFormsModel", amT8, 36)]
def amDF : List (List Value) := [amD0, amD1, amD2, amD3, amD4, amD5, amD6, amD7, amD8]
def am_cOk (WS : List Jvm.Cond) (C : String) (T : u_T) (N : Nat) (fs : List Value) : Prop := (∀ w ∈ u_ws C T N, w ∈ WS) ∧ Jvm.Cond.instantiable C N ∈ WS ∧ Jvm.Cond.initialized C ∈ WS ∧ (∀ a, a < N → ∀ b, b < N → a ≠ b → (T a).2.1 ≠ (T b).2.1) ∧ ∃ ty : Nat → FieldType, (∀ k, k < N → parseFieldDescriptor (T k).2.2.1 = some (ty k)) ∧ fs.length = N ∧ (∀ j, j < N → defaultValue (ty j) = vp_V fs j) ∧ ∀ (ad : Nat → Nat), fs.map (am_v ad) = fs
theorem am_u_of {C : String} {T : u_T} {N : Nat} (ps : List Nat) (hp : u_ws C T N = ps.filterMap (fun i => tables_1[i]?)) (hg : (u_ws C T N).all goodWord = true) : ∀ w ∈ u_ws C T N, w ∈ amWS := by
  intro w hw
  have hg2 := List.all_eq_true.mp hg w hw
  rw [hp] at hw
  obtain ⟨i, -, hi⟩ := List.mem_filterMap.mp hw
  exact am_tm i hi hg2
theorem amC0_ok : am_cOk amWS "ConeForms" amT0 7 amD0 := ⟨am_u_of [232, 234, 236, 238, 240, 242, 244] (by decide +kernel) (by decide +kernel), am_tm 12 (by decide +kernel) rfl, am_tm 1 (by decide +kernel) rfl, by decide +kernel, amY0, by decide +kernel, rfl, by decide +kernel, fun _ => rfl⟩
theorem amC1_ok : am_cOk amWS "ConeForms$Line" amT1 2 amD1 := ⟨am_u_of [30, 32] (by decide +kernel) (by decide +kernel), am_tm 20 (by decide +kernel) rfl, am_tm 2 (by decide +kernel) rfl, by decide +kernel, amY1, by decide +kernel, rfl, by decide +kernel, fun _ => rfl⟩
theorem amC2_ok : am_cOk amWS "ConeForms$Script" amT2 3 amD2 := ⟨am_u_of [49, 51, 53] (by decide +kernel) (by decide +kernel), am_tm 37 (by decide +kernel) rfl, am_tm 3 (by decide +kernel) rfl, by decide +kernel, amY2, by decide +kernel, rfl, by decide +kernel, fun _ => rfl⟩
theorem amC3_ok : am_cOk amWS "ConeForms$Parser" amT3 4 amD3 := ⟨am_u_of [67, 69, 71, 73] (by decide +kernel) (by decide +kernel), am_tm 58 (by decide +kernel) rfl, am_tm 4 (by decide +kernel) rfl, by decide +kernel, amY3, by decide +kernel, rfl, by decide +kernel, fun _ => rfl⟩
theorem amC4_ok : am_cOk amWS "ConeForms$Builder" amT4 3 amD4 := ⟨am_u_of [137, 139, 141] (by decide +kernel) (by decide +kernel), am_tm 129 (by decide +kernel) rfl, am_tm 6 (by decide +kernel) rfl, by decide +kernel, amY4, by decide +kernel, rfl, by decide +kernel, fun _ => rfl⟩
theorem amC5_ok : am_cOk amWS "ConeForms$Graph" amT5 10 amD5 := ⟨am_u_of [107, 109, 111, 113, 115, 117, 119, 121, 123, 125] (by decide +kernel) (by decide +kernel), am_tm 77 (by decide +kernel) rfl, am_tm 5 (by decide +kernel) rfl, by decide +kernel, amY5, by decide +kernel, rfl, by decide +kernel, fun _ => rfl⟩
theorem amC6_ok : am_cOk amWS "ConeForms$Problem" amT6 6 amD6 := ⟨am_u_of [163, 165, 167, 169, 171, 173] (by decide +kernel) (by decide +kernel), am_tm 145 (by decide +kernel) rfl, am_tm 7 (by decide +kernel) rfl, by decide +kernel, amY6, by decide +kernel, rfl, by decide +kernel, fun _ => rfl⟩
theorem amC7_ok : am_cOk amWS "ConeForms$Form" amT7 12 amD7 := ⟨am_u_of [199, 201, 203, 205, 207, 209, 211, 213, 215, 217, 219, 221] (by decide +kernel) (by decide +kernel), am_tm 178 (by decide +kernel) rfl, am_tm 8 (by decide +kernel) rfl, by decide +kernel, amY7, by decide +kernel, rfl, by decide +kernel, fun _ => rfl⟩
theorem amC8_ok : am_cOk amWS "ConeFormsModel" amT8 36 amD8 := ⟨am_u_of [684, 686, 688, 690, 692, 694, 696, 698, 700, 702, 704, 706, 708, 710, 712, 714, 716, 718, 720, 722, 724, 726, 728, 730, 732, 734, 736, 738, 740, 742, 744, 746, 748, 750, 752, 754] (by decide +kernel) (by decide +kernel), am_tm 643 (by decide +kernel) rfl, am_tm 9 (by decide +kernel) rfl, by decide +kernel, amY8, by decide +kernel, rfl, by decide +kernel, fun _ => rfl⟩
theorem amCl_ok : am_clOk amCl amWS amDF := by
  have key : ∀ {C : String} {T : u_T} {N : Nat} {fs0 : List Value}, am_cOk amWS C T N fs0 → ∀ ci : Nat, amDF[ci]? = some fs0 → (∀ w ∈ u_ws C T N, w ∈ amWS) ∧ Jvm.Cond.instantiable C N ∈ amWS ∧ Jvm.Cond.initialized C ∈ amWS ∧ (∀ a, a < N → ∀ b, b < N → a ≠ b → (T a).2.1 ≠ (T b).2.1) ∧ ∃ ty : Nat → FieldType, (∀ k, k < N → parseFieldDescriptor (T k).2.2.1 = some (ty k)) ∧ ∀ fs, amDF[ci]? = some fs → fs.length = N ∧ (∀ j, j < N → defaultValue (ty j) = vp_V fs j) ∧ ∀ (ad : Nat → Nat), fs.map (am_v ad) = fs := by
    intro C T N fs0 h ci h0
    obtain ⟨h1, h2, h3, h4, ty, h5, h6, h7, h8⟩ := h
    refine ⟨h1, h2, h3, h4, ty, h5, fun fs hf => ?_⟩
    rw [h0] at hf
    cases hf
    exact ⟨h6, h7, h8⟩
  intro ci C T N h
  match ci, h with
  | 0, h => cases h; exact key amC0_ok 0 rfl
  | 1, h => cases h; exact key amC1_ok 1 rfl
  | 2, h => cases h; exact key amC2_ok 2 rfl
  | 3, h => cases h; exact key amC3_ok 3 rfl
  | 4, h => cases h; exact key amC4_ok 4 rfl
  | 5, h => cases h; exact key amC5_ok 5 rfl
  | 6, h => cases h; exact key amC6_ok 6 rfl
  | 7, h => cases h; exact key amC7_ok 7 rfl
  | 8, h => cases h; exact key amC8_ok 8 rfl
  | n + 9, h => exact absurd h (by simp [amCl])
