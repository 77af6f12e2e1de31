-- ===== PART A: goes FIRST, ahead of the names: the tables' words, and 'selects' of the private methods out of them =====
/-- a private method of a class that the tables say can be made, by its rows of tables_1 -/
def lw_okq (q : MethodName × Nat) : Prop := (q.1.cls ≠ "java/lang/invoke/MethodHandle" ∧ q.1.cls ≠ "java/lang/invoke/VarHandle") ∧ Cond.instantiable q.1.cls q.2 ∈ tables_1 ∧ Cond.privateMethod q.1 ∈ tables_1 ∧ Cond.instanceMethod q.1 ∈ tables_1
theorem lw_p0 : lw_okq (⟨"GateTimes", "isTimeAhead", "(J)Z"⟩, 8) := ⟨⟨by decide +kernel, by decide +kernel⟩, List.mem_of_getElem? (i := 9) (by decide +kernel), List.mem_of_getElem? (i := 111) (by decide +kernel), List.mem_of_getElem? (i := 112) (by decide +kernel)⟩
theorem lw_p1 : lw_okq (⟨"GateTimes", "isBehindLastItem", "(J)Z"⟩, 8) := ⟨⟨by decide +kernel, by decide +kernel⟩, List.mem_of_getElem? (i := 9) (by decide +kernel), List.mem_of_getElem? (i := 116) (by decide +kernel), List.mem_of_getElem? (i := 117) (by decide +kernel)⟩
theorem lw_p2 : lw_okq (⟨"GateTimes", "itemOf", "(I)LGateTimes$Item;"⟩, 8) := ⟨⟨by decide +kernel, by decide +kernel⟩, List.mem_of_getElem? (i := 9) (by decide +kernel), List.mem_of_getElem? (i := 179) (by decide +kernel), List.mem_of_getElem? (i := 180) (by decide +kernel)⟩
theorem lw_p3 : lw_okq (⟨"GateTimes", "gateOf", "(I)LGateTimes$Gate;"⟩, 8) := ⟨⟨by decide +kernel, by decide +kernel⟩, List.mem_of_getElem? (i := 9) (by decide +kernel), List.mem_of_getElem? (i := 183) (by decide +kernel), List.mem_of_getElem? (i := 184) (by decide +kernel)⟩
theorem lw_p4 : lw_okq (⟨"GateTimes", "passTo", "(J)V"⟩, 8) := ⟨⟨by decide +kernel, by decide +kernel⟩, List.mem_of_getElem? (i := 9) (by decide +kernel), List.mem_of_getElem? (i := 187) (by decide +kernel), List.mem_of_getElem? (i := 188) (by decide +kernel)⟩
theorem lw_p5 : lw_okq (⟨"GateTimes", "nextPlace", "(J)I"⟩, 8) := ⟨⟨by decide +kernel, by decide +kernel⟩, List.mem_of_getElem? (i := 9) (by decide +kernel), List.mem_of_getElem? (i := 191) (by decide +kernel), List.mem_of_getElem? (i := 192) (by decide +kernel)⟩
theorem lw_p6 : lw_okq (⟨"GateTimes", "moveAt", "(I)V"⟩, 8) := ⟨⟨by decide +kernel, by decide +kernel⟩, List.mem_of_getElem? (i := 9) (by decide +kernel), List.mem_of_getElem? (i := 200) (by decide +kernel), List.mem_of_getElem? (i := 201) (by decide +kernel)⟩
theorem lw_p7 : lw_okq (⟨"GateTimes", "putInto", "(ILGateTimes$Item;)V"⟩, 8) := ⟨⟨by decide +kernel, by decide +kernel⟩, List.mem_of_getElem? (i := 9) (by decide +kernel), List.mem_of_getElem? (i := 214) (by decide +kernel), List.mem_of_getElem? (i := 215) (by decide +kernel)⟩
theorem lw_p8 : lw_okq (⟨"GateTimesModel", "isItem", "(I)Z"⟩, 21) := ⟨⟨by decide +kernel, by decide +kernel⟩, List.mem_of_getElem? (i := 254) (by decide +kernel), List.mem_of_getElem? (i := 340) (by decide +kernel), List.mem_of_getElem? (i := 341) (by decide +kernel)⟩
theorem lw_p9 : lw_okq (⟨"GateTimesModel", "isBin", "(I)Z"⟩, 21) := ⟨⟨by decide +kernel, by decide +kernel⟩, List.mem_of_getElem? (i := 254) (by decide +kernel), List.mem_of_getElem? (i := 344) (by decide +kernel), List.mem_of_getElem? (i := 345) (by decide +kernel)⟩
theorem lw_p10 : lw_okq (⟨"GateTimesModel", "pass", "(J)V"⟩, 21) := ⟨⟨by decide +kernel, by decide +kernel⟩, List.mem_of_getElem? (i := 254) (by decide +kernel), List.mem_of_getElem? (i := 348) (by decide +kernel), List.mem_of_getElem? (i := 349) (by decide +kernel)⟩
theorem lw_p11 : lw_okq (⟨"GateTimesModel", "front", "(II)J"⟩, 21) := ⟨⟨by decide +kernel, by decide +kernel⟩, List.mem_of_getElem? (i := 254) (by decide +kernel), List.mem_of_getElem? (i := 352) (by decide +kernel), List.mem_of_getElem? (i := 353) (by decide +kernel)⟩
theorem lw_p12 : lw_okq (⟨"GateTimesModel", "at", "(II)V"⟩, 21) := ⟨⟨by decide +kernel, by decide +kernel⟩, List.mem_of_getElem? (i := 254) (by decide +kernel), List.mem_of_getElem? (i := 357) (by decide +kernel), List.mem_of_getElem? (i := 358) (by decide +kernel)⟩
def lw_privs_1 : List (MethodName × Nat) := [(⟨"GateTimes", "isTimeAhead", "(J)Z"⟩, 8), (⟨"GateTimes", "isBehindLastItem", "(J)Z"⟩, 8), (⟨"GateTimes", "itemOf", "(I)LGateTimes$Item;"⟩, 8), (⟨"GateTimes", "gateOf", "(I)LGateTimes$Gate;"⟩, 8), (⟨"GateTimes", "passTo", "(J)V"⟩, 8), (⟨"GateTimes", "nextPlace", "(J)I"⟩, 8), (⟨"GateTimes", "moveAt", "(I)V"⟩, 8), (⟨"GateTimes", "putInto", "(ILGateTimes$Item;)V"⟩, 8), (⟨"GateTimesModel", "isItem", "(I)Z"⟩, 21), (⟨"GateTimesModel", "isBin", "(I)Z"⟩, 21), (⟨"GateTimesModel", "pass", "(J)V"⟩, 21), (⟨"GateTimesModel", "front", "(II)J"⟩, 21), (⟨"GateTimesModel", "at", "(II)V"⟩, 21)]
theorem lw_r1 : ∀ q ∈ lw_privs_1, lw_okq q := List.forall_mem_cons.mpr ⟨lw_p0, List.forall_mem_cons.mpr ⟨lw_p1, List.forall_mem_cons.mpr ⟨lw_p2, List.forall_mem_cons.mpr ⟨lw_p3, List.forall_mem_cons.mpr ⟨lw_p4, List.forall_mem_cons.mpr ⟨lw_p5, List.forall_mem_cons.mpr ⟨lw_p6, List.forall_mem_cons.mpr ⟨lw_p7, List.forall_mem_cons.mpr ⟨lw_p8, List.forall_mem_cons.mpr ⟨lw_p9, List.forall_mem_cons.mpr ⟨lw_p10, List.forall_mem_cons.mpr ⟨lw_p11, List.forall_mem_cons.mpr ⟨lw_p12, fun _ h => absurd h List.not_mem_nil⟩⟩⟩⟩⟩⟩⟩⟩⟩⟩⟩⟩⟩
def lw_privs : List (MethodName × Nat) := lw_privs_1
def lw_tbl : List Cond := k2_sels lw_privs ++ tables_1
theorem lw_privs_ok : ∀ q ∈ lw_privs, lw_okq q := lw_r1
def aw : List Cond := lw_tbl.filter goodWord
theorem aw_good {w : Cond} (h : w ∈ aw) : (w.onTables && w.keeps) = true ∨ ∃ ty, w = .arrayClass ty := good_of_word (List.mem_filter.mp h).2
theorem aw_tbl : ∀ w ∈ aw, w ∈ lw_tbl := fun _ h => (List.mem_filter.mp h).1
theorem aw_1 {w : Cond} {i : Nat} (h : tables_1_1[i]? = some w) (g : goodWord w = true) : w ∈ aw := List.mem_filter.mpr ⟨List.mem_append_right _ (List.mem_append_left _ (List.mem_of_getElem? h)), g⟩
theorem aw_2 {w : Cond} {i : Nat} (h : tables_1_2[i]? = some w) (g : goodWord w = true) : w ∈ aw := List.mem_filter.mpr ⟨List.mem_append_right _ (List.mem_append_right _ (List.mem_of_getElem? h)), g⟩
theorem aw_p {w : Cond} {i : Nat} (h : (k2_sels lw_privs)[i]? = some w) (g : goodWord w = true) : w ∈ aw := List.mem_filter.mpr ⟨List.mem_append_left _ (List.mem_of_getElem? h), g⟩
theorem tb_1 {w : Cond} {i : Nat} (h : tables_1_1[i]? = some w) : w ∈ lw_tbl := List.mem_append_right _ (List.mem_append_left _ (List.mem_of_getElem? h))
theorem tb_2 {w : Cond} {i : Nat} (h : tables_1_2[i]? = some w) : w ∈ lw_tbl := List.mem_append_right _ (List.mem_append_right _ (List.mem_of_getElem? h))
theorem good_in {c0 : Cond} {ws : List Cond} (h : ∀ w ∈ ws, w ∈ aw) : GoodIn (c0 :: aw) ws := fun w hw => ⟨List.mem_cons_of_mem _ (h w hw), aw_good (h w hw)⟩
theorem good_aw {ws : List Cond} (h : ∀ w ∈ ws, w ∈ aw) : GoodIn aw ws := fun w hw => ⟨h w hw, aw_good (h w hw)⟩
theorem wd_0 : (Cond.initialized "GateTimesLaw") ∈ aw := aw_1 (i := 0) rfl rfl
theorem wd_1 : (Cond.initialized "GateTimes") ∈ aw := aw_1 (i := 1) rfl rfl
theorem wd_2 : (Cond.initialized "GateTimes$Row") ∈ aw := aw_1 (i := 2) rfl rfl
theorem wd_3 : (Cond.initialized "java/lang/Math") ∈ aw := aw_1 (i := 3) rfl rfl
theorem wd_4 : (Cond.initialized "GateTimes$Gate") ∈ aw := aw_1 (i := 4) rfl rfl
theorem wd_5 : (Cond.initialized "GateTimes$Line") ∈ aw := aw_1 (i := 5) rfl rfl
theorem wd_6 : (Cond.initialized "GateTimesModel") ∈ aw := aw_1 (i := 6) rfl rfl
theorem wd_7 : (Cond.initialized "GateTimes$Item") ∈ aw := aw_1 (i := 7) rfl rfl
theorem wd_8 : (Cond.classLink "GateTimesLaw" 7 "GateTimes") ∈ aw := aw_1 (i := 8) rfl rfl
theorem wd_9 : (Cond.instantiable "GateTimes" 8) ∈ aw := aw_1 (i := 9) rfl rfl
theorem wd_10 : (Cond.methodLink "GateTimesLaw" 15 ⟨"GateTimes", "<init>", "(I)V"⟩) ∈ aw := aw_1 (i := 10) rfl rfl
theorem wd_11 : (Cond.instanceMethod ⟨"GateTimes", "<init>", "(I)V"⟩) ∈ aw := aw_1 (i := 11) rfl rfl
theorem wd_12 : (Cond.code ⟨"GateTimes", "<init>", "(I)V"⟩ prog_1_method_1_code 4 .none) ∈ aw := aw_1 (i := 12) rfl rfl
theorem wd_13 : (Cond.methodLink "GateTimes" 3 ⟨"java/lang/Object", "<init>", "()V"⟩) ∈ aw := aw_1 (i := 13) rfl rfl
theorem wd_14 : (Cond.instanceMethod ⟨"java/lang/Object", "<init>", "()V"⟩) ∈ aw := aw_1 (i := 14) rfl rfl
theorem wd_15 : (Cond.code ⟨"java/lang/Object", "<init>", "()V"⟩ object_method_1_code 1 .none) ∈ aw := aw_1 (i := 15) rfl rfl
theorem wd_16 : (Cond.classLink "GateTimes" 9 "GateTimes$Row") ∈ aw := aw_1 (i := 16) rfl rfl
theorem wd_17 : (Cond.instantiable "GateTimes$Row" 2) ∈ aw := aw_1 (i := 17) rfl rfl
theorem wd_18 : (Cond.methodLinkNest "GateTimes" 11 ⟨"GateTimes$Row", "<init>", "()V"⟩ "GateTimes") ∈ lw_tbl := tb_1 (i := 18) rfl
theorem wd_19 : (Cond.instanceMethod ⟨"GateTimes$Row", "<init>", "()V"⟩) ∈ aw := aw_1 (i := 19) rfl rfl
theorem wd_20 : (Cond.code ⟨"GateTimes$Row", "<init>", "()V"⟩ prog_5_method_1_code 1 .none) ∈ aw := aw_1 (i := 20) rfl rfl
theorem wd_21 : (Cond.methodLink "GateTimes$Row" 3 ⟨"java/lang/Object", "<init>", "()V"⟩) ∈ aw := aw_1 (i := 21) rfl rfl
theorem wd_22 : (Cond.classLink "GateTimes$Row" 9 "GateTimes$Item") ∈ aw := aw_1 (i := 22) rfl rfl
theorem wd_23 : (Cond.arrayOver (.object "GateTimes$Item")) ∈ lw_tbl := tb_1 (i := 23) rfl
theorem wd_24 : (Cond.fieldLink "GateTimes$Row" 11 "GateTimes$Row" "all" "[LGateTimes$Item;") ∈ aw := aw_1 (i := 24) rfl rfl
theorem wd_25 : (Cond.fieldLink "GateTimes$Row" 17 "GateTimes$Row" "size" "I") ∈ aw := aw_1 (i := 25) rfl rfl
theorem wd_26 : (Cond.fieldLink "GateTimes" 72 "GateTimes$Row" "size" "I") ∈ aw := aw_1 (i := 26) rfl rfl
theorem wd_27 : (Cond.laysFinal "GateTimes$Row" "GateTimes$Row" "all" "[LGateTimes$Item;") ∈ aw := aw_1 (i := 27) rfl rfl
theorem wd_29 : (Cond.lays "GateTimes$Row" "GateTimes$Row" "size" "I") ∈ aw := aw_1 (i := 29) rfl rfl
theorem wd_32 : (Cond.methodLink "GateTimes" 30 ⟨"java/lang/Math", "min", "(II)I"⟩) ∈ aw := aw_1 (i := 32) rfl rfl
theorem wd_33 : (Cond.static ⟨"java/lang/Math", "min", "(II)I"⟩) ∈ aw := aw_1 (i := 33) rfl rfl
theorem wd_34 : (Cond.code ⟨"java/lang/Math", "min", "(II)I"⟩ prog_8_method_69_code 2 (.some .int)) ∈ aw := aw_1 (i := 34) rfl rfl
theorem wd_35 : (Cond.methodLink "GateTimes" 36 ⟨"java/lang/Math", "max", "(II)I"⟩) ∈ aw := aw_1 (i := 35) rfl rfl
theorem wd_36 : (Cond.static ⟨"java/lang/Math", "max", "(II)I"⟩) ∈ aw := aw_1 (i := 36) rfl rfl
theorem wd_37 : (Cond.code ⟨"java/lang/Math", "max", "(II)I"⟩ prog_8_method_65_code 2 (.some .int)) ∈ aw := aw_1 (i := 37) rfl rfl
theorem wd_38 : (Cond.classLink "GateTimes" 39 "GateTimes$Gate") ∈ aw := aw_1 (i := 38) rfl rfl
theorem wd_39 : (Cond.arrayOver (.object "GateTimes$Gate")) ∈ lw_tbl := tb_1 (i := 39) rfl
theorem wd_40 : (Cond.classLink "GateTimes" 45 "GateTimes$Line") ∈ aw := aw_1 (i := 40) rfl rfl
theorem wd_41 : (Cond.arrayOver (.object "GateTimes$Line")) ∈ lw_tbl := tb_1 (i := 41) rfl
theorem wd_42 : (Cond.instantiable "GateTimes$Gate" 5) ∈ aw := aw_1 (i := 42) rfl rfl
theorem wd_43 : (Cond.methodLinkNest "GateTimes" 55 ⟨"GateTimes$Gate", "<init>", "()V"⟩ "GateTimes") ∈ lw_tbl := tb_1 (i := 43) rfl
theorem wd_44 : (Cond.instanceMethod ⟨"GateTimes$Gate", "<init>", "()V"⟩) ∈ aw := aw_1 (i := 44) rfl rfl
theorem wd_45 : (Cond.code ⟨"GateTimes$Gate", "<init>", "()V"⟩ prog_2_method_1_code 1 .none) ∈ aw := aw_1 (i := 45) rfl rfl
theorem wd_46 : (Cond.methodLink "GateTimes$Gate" 3 ⟨"java/lang/Object", "<init>", "()V"⟩) ∈ aw := aw_1 (i := 46) rfl rfl
theorem wd_47 : (Cond.fieldLink "GateTimes$Gate" 9 "GateTimes$Gate" "open" "Z") ∈ aw := aw_1 (i := 47) rfl rfl
theorem wd_48 : (Cond.fieldLink "GateTimes$Gate" 15 "GateTimes$Gate" "stuck" "Z") ∈ aw := aw_1 (i := 48) rfl rfl
theorem wd_49 : (Cond.fieldLink "GateTimes" 124 "GateTimes$Gate" "stuck" "Z") ∈ aw := aw_1 (i := 49) rfl rfl
theorem wd_50 : (Cond.fieldLink "GateTimes$Gate" 18 "GateTimes$Gate" "height" "I") ∈ aw := aw_1 (i := 50) rfl rfl
theorem wd_51 : (Cond.fieldLink "GateTimes" 118 "GateTimes$Gate" "height" "I") ∈ aw := aw_1 (i := 51) rfl rfl
theorem wd_52 : (Cond.fieldLink "GateTimes$Gate" 22 "GateTimes$Gate" "held" "I") ∈ aw := aw_1 (i := 52) rfl rfl
theorem wd_53 : (Cond.fieldLink "GateTimes" 121 "GateTimes$Gate" "held" "I") ∈ aw := aw_1 (i := 53) rfl rfl
theorem wd_54 : (Cond.fieldLink "GateTimes$Gate" 25 "GateTimes$Gate" "freeFrom" "J") ∈ aw := aw_1 (i := 54) rfl rfl
theorem wd_55 : (Cond.lays "GateTimes$Gate" "GateTimes$Gate" "open" "Z") ∈ aw := aw_1 (i := 55) rfl rfl
theorem wd_57 : (Cond.lays "GateTimes$Gate" "GateTimes$Gate" "stuck" "Z") ∈ aw := aw_1 (i := 57) rfl rfl
theorem wd_59 : (Cond.lays "GateTimes$Gate" "GateTimes$Gate" "height" "I") ∈ aw := aw_1 (i := 59) rfl rfl
theorem wd_61 : (Cond.lays "GateTimes$Gate" "GateTimes$Gate" "held" "I") ∈ aw := aw_1 (i := 61) rfl rfl
theorem wd_63 : (Cond.lays "GateTimes$Gate" "GateTimes$Gate" "freeFrom" "J") ∈ aw := aw_1 (i := 63) rfl rfl
theorem wd_66 : (Cond.arrayClass .int) ∈ aw := aw_1 (i := 66) rfl rfl
theorem wd_67 : (Cond.instantiable "GateTimes$Line" 2) ∈ aw := aw_1 (i := 67) rfl rfl
theorem wd_68 : (Cond.methodLinkNest "GateTimes" 56 ⟨"GateTimes$Line", "<init>", "()V"⟩ "GateTimes") ∈ lw_tbl := tb_1 (i := 68) rfl
theorem wd_69 : (Cond.instanceMethod ⟨"GateTimes$Line", "<init>", "()V"⟩) ∈ aw := aw_1 (i := 69) rfl rfl
theorem wd_70 : (Cond.code ⟨"GateTimes$Line", "<init>", "()V"⟩ prog_4_method_1_code 1 .none) ∈ aw := aw_1 (i := 70) rfl rfl
theorem wd_71 : (Cond.methodLink "GateTimes$Line" 1 ⟨"java/lang/Object", "<init>", "()V"⟩) ∈ aw := aw_1 (i := 71) rfl rfl
theorem wd_72 : (Cond.fieldLink "GateTimes$Line" 7 "GateTimes$Line" "first" "LGateTimes$Item;") ∈ aw := aw_1 (i := 72) rfl rfl
theorem wd_73 : (Cond.fieldLink "GateTimes" 146 "GateTimes$Line" "first" "LGateTimes$Item;") ∈ aw := aw_1 (i := 73) rfl rfl
theorem wd_74 : (Cond.fieldLink "GateTimes$Line" 13 "GateTimes$Line" "last" "LGateTimes$Item;") ∈ aw := aw_1 (i := 74) rfl rfl
theorem wd_75 : (Cond.lays "GateTimes$Line" "GateTimes$Line" "first" "LGateTimes$Item;") ∈ aw := aw_1 (i := 75) rfl rfl
theorem wd_77 : (Cond.lays "GateTimes$Line" "GateTimes$Line" "last" "LGateTimes$Item;") ∈ aw := aw_1 (i := 77) rfl rfl
theorem wd_80 : (Cond.fieldLink "GateTimes" 41 "GateTimes" "gates" "[LGateTimes$Gate;") ∈ aw := aw_1 (i := 80) rfl rfl
theorem wd_81 : (Cond.fieldLink "GateTimes" 47 "GateTimes" "lines" "[LGateTimes$Line;") ∈ aw := aw_1 (i := 81) rfl rfl
theorem wd_82 : (Cond.fieldLink "GateTimes" 51 "GateTimes" "came" "[I") ∈ aw := aw_1 (i := 82) rfl rfl
theorem wd_83 : (Cond.fieldLink "GateTimes" 12 "GateTimes" "items" "LGateTimes$Row;") ∈ aw := aw_1 (i := 83) rfl rfl
theorem wd_84 : (Cond.fieldLink "GateTimes" 16 "GateTimes" "arrived" "LGateTimes$Row;") ∈ aw := aw_1 (i := 84) rfl rfl
theorem wd_85 : (Cond.fieldLink "GateTimes" 19 "GateTimes" "wrong" "LGateTimes$Row;") ∈ aw := aw_1 (i := 85) rfl rfl
theorem wd_86 : (Cond.fieldLink "GateTimes" 22 "GateTimes" "arrivedAtLastStep" "I") ∈ aw := aw_1 (i := 86) rfl rfl
theorem wd_87 : (Cond.fieldLink "GateTimes" 26 "GateTimes" "now" "J") ∈ aw := aw_1 (i := 87) rfl rfl
theorem wd_88 : (Cond.laysFinal "GateTimes" "GateTimes" "gates" "[LGateTimes$Gate;") ∈ aw := aw_1 (i := 88) rfl rfl
theorem wd_90 : (Cond.laysFinal "GateTimes" "GateTimes" "lines" "[LGateTimes$Line;") ∈ aw := aw_1 (i := 90) rfl rfl
theorem wd_92 : (Cond.laysFinal "GateTimes" "GateTimes" "came" "[I") ∈ aw := aw_1 (i := 92) rfl rfl
theorem wd_94 : (Cond.laysFinal "GateTimes" "GateTimes" "items" "LGateTimes$Row;") ∈ aw := aw_1 (i := 94) rfl rfl
theorem wd_96 : (Cond.laysFinal "GateTimes" "GateTimes" "arrived" "LGateTimes$Row;") ∈ aw := aw_1 (i := 96) rfl rfl
theorem wd_98 : (Cond.laysFinal "GateTimes" "GateTimes" "wrong" "LGateTimes$Row;") ∈ aw := aw_1 (i := 98) rfl rfl
theorem wd_100 : (Cond.lays "GateTimes" "GateTimes" "arrivedAtLastStep" "I") ∈ aw := aw_1 (i := 100) rfl rfl
theorem wd_102 : (Cond.lays "GateTimes" "GateTimes" "now" "J") ∈ aw := aw_1 (i := 102) rfl rfl
theorem wd_105 : (Cond.methodLink "GateTimesLaw" 23 ⟨"GateTimes", "item", "(JJ)I"⟩) ∈ aw := aw_1 (i := 105) rfl rfl
theorem wd_106 : (Cond.instanceMethod ⟨"GateTimes", "item", "(JJ)I"⟩) ∈ aw := aw_1 (i := 106) rfl rfl
theorem wd_107 : (Cond.selects "GateTimes" ⟨"GateTimes", "item", "(JJ)I"⟩ ⟨"GateTimes", "item", "(JJ)I"⟩) ∈ aw := aw_1 (i := 107) rfl rfl
theorem wd_108 : (Cond.code ⟨"GateTimes", "item", "(JJ)I"⟩ prog_1_method_2_code 6 (.some .int)) ∈ aw := aw_1 (i := 108) rfl rfl
theorem wd_109 : (Cond.constantLong "GateTimes" 57 (900)) ∈ aw := aw_1 (i := 109) rfl rfl
theorem wd_110 : (Cond.methodLink "GateTimes" 59 ⟨"GateTimes", "isTimeAhead", "(J)Z"⟩) ∈ aw := aw_1 (i := 110) rfl rfl
theorem wd_112 : (Cond.instanceMethod ⟨"GateTimes", "isTimeAhead", "(J)Z"⟩) ∈ aw := aw_1 (i := 112) rfl rfl
theorem wd_113 : (Cond.code ⟨"GateTimes", "isTimeAhead", "(J)Z"⟩ prog_1_method_12_code 3 (.some .boolean)) ∈ aw := aw_1 (i := 113) rfl rfl
theorem wd_114 : (Cond.constantLong "GateTimes" 128 (1000000000)) ∈ aw := aw_1 (i := 114) rfl rfl
theorem wd_115 : (Cond.methodLink "GateTimes" 63 ⟨"GateTimes", "isBehindLastItem", "(J)Z"⟩) ∈ aw := aw_1 (i := 115) rfl rfl
theorem wd_117 : (Cond.instanceMethod ⟨"GateTimes", "isBehindLastItem", "(J)Z"⟩) ∈ aw := aw_1 (i := 117) rfl rfl
theorem wd_118 : (Cond.code ⟨"GateTimes", "isBehindLastItem", "(J)Z"⟩ prog_1_method_13_code 4 (.some .boolean)) ∈ aw := aw_1 (i := 118) rfl rfl
theorem wd_119 : (Cond.methodLink "GateTimes" 115 ⟨"GateTimes$Row", "get", "(I)LGateTimes$Item;"⟩) ∈ aw := aw_1 (i := 119) rfl rfl
theorem wd_120 : (Cond.instanceMethod ⟨"GateTimes$Row", "get", "(I)LGateTimes$Item;"⟩) ∈ aw := aw_1 (i := 120) rfl rfl
theorem wd_121 : (Cond.selects "GateTimes$Row" ⟨"GateTimes$Row", "get", "(I)LGateTimes$Item;"⟩ ⟨"GateTimes$Row", "get", "(I)LGateTimes$Item;"⟩) ∈ aw := aw_1 (i := 121) rfl rfl
theorem wd_122 : (Cond.code ⟨"GateTimes$Row", "get", "(I)LGateTimes$Item;"⟩ prog_5_method_4_code 2 (.some (.object "GateTimes$Item"))) ∈ aw := aw_1 (i := 122) rfl rfl
theorem wd_123 : (Cond.constantLong "GateTimes" 136 (50)) ∈ aw := aw_1 (i := 123) rfl rfl
theorem wd_124 : (Cond.methodLink "GateTimes" 66 ⟨"GateTimes$Row", "isFull", "()Z"⟩) ∈ aw := aw_1 (i := 124) rfl rfl
theorem wd_125 : (Cond.instanceMethod ⟨"GateTimes$Row", "isFull", "()Z"⟩) ∈ aw := aw_1 (i := 125) rfl rfl
theorem wd_126 : (Cond.selects "GateTimes$Row" ⟨"GateTimes$Row", "isFull", "()Z"⟩ ⟨"GateTimes$Row", "isFull", "()Z"⟩) ∈ aw := aw_1 (i := 126) rfl rfl
theorem wd_127 : (Cond.code ⟨"GateTimes$Row", "isFull", "()Z"⟩ prog_5_method_2_code 1 (.some .boolean)) ∈ aw := aw_1 (i := 127) rfl rfl
theorem wd_128 : (Cond.classLink "GateTimes" 70 "GateTimes$Item") ∈ aw := aw_1 (i := 128) rfl rfl
theorem wd_129 : (Cond.instantiable "GateTimes$Item" 7) ∈ aw := aw_1 (i := 129) rfl rfl
theorem wd_130 : (Cond.methodLink "GateTimes" 75 ⟨"GateTimes$Item", "<init>", "(IJJ)V"⟩) ∈ aw := aw_1 (i := 130) rfl rfl
theorem wd_131 : (Cond.instanceMethod ⟨"GateTimes$Item", "<init>", "(IJJ)V"⟩) ∈ aw := aw_1 (i := 131) rfl rfl
theorem wd_132 : (Cond.code ⟨"GateTimes$Item", "<init>", "(IJJ)V"⟩ prog_3_method_1_code 6 .none) ∈ aw := aw_1 (i := 132) rfl rfl
theorem wd_133 : (Cond.methodLink "GateTimes$Item" 3 ⟨"java/lang/Object", "<init>", "()V"⟩) ∈ aw := aw_1 (i := 133) rfl rfl
theorem wd_134 : (Cond.fieldLink "GateTimes$Item" 25 "GateTimes$Item" "number" "I") ∈ aw := aw_1 (i := 134) rfl rfl
theorem wd_135 : (Cond.fieldLink "GateTimes" 85 "GateTimes$Item" "number" "I") ∈ aw := aw_1 (i := 135) rfl rfl
theorem wd_136 : (Cond.fieldLink "GateTimes$Item" 28 "GateTimes$Item" "at" "J") ∈ aw := aw_1 (i := 136) rfl rfl
theorem wd_137 : (Cond.fieldLink "GateTimes" 130 "GateTimes$Item" "at" "J") ∈ aw := aw_1 (i := 137) rfl rfl
theorem wd_138 : (Cond.fieldLink "GateTimes$Item" 32 "GateTimes$Item" "length" "J") ∈ aw := aw_1 (i := 138) rfl rfl
theorem wd_139 : (Cond.fieldLink "GateTimes$Gate" 38 "GateTimes$Item" "length" "J") ∈ aw := aw_1 (i := 139) rfl rfl
theorem wd_140 : (Cond.fieldLink "GateTimes" 133 "GateTimes$Item" "length" "J") ∈ aw := aw_1 (i := 140) rfl rfl
theorem wd_141 : (Cond.fieldLink "GateTimes$Item" 9 "GateTimes$Item" "order" "I") ∈ aw := aw_1 (i := 141) rfl rfl
theorem wd_142 : (Cond.fieldLink "GateTimes$Gate" 29 "GateTimes$Item" "order" "I") ∈ aw := aw_1 (i := 142) rfl rfl
theorem wd_143 : (Cond.fieldLink "GateTimes" 103 "GateTimes$Item" "order" "I") ∈ aw := aw_1 (i := 143) rfl rfl
theorem wd_144 : (Cond.fieldLink "GateTimes$Item" 15 "GateTimes$Item" "bin" "I") ∈ aw := aw_1 (i := 144) rfl rfl
theorem wd_145 : (Cond.fieldLink "GateTimes" 100 "GateTimes$Item" "bin" "I") ∈ aw := aw_1 (i := 145) rfl rfl
theorem wd_146 : (Cond.fieldLink "GateTimes$Item" 18 "GateTimes$Item" "late" "I") ∈ aw := aw_1 (i := 146) rfl rfl
theorem wd_147 : (Cond.fieldLink "GateTimes" 112 "GateTimes$Item" "late" "I") ∈ aw := aw_1 (i := 147) rfl rfl
theorem wd_148 : (Cond.fieldLink "GateTimes$Item" 21 "GateTimes$Item" "behind" "LGateTimes$Item;") ∈ aw := aw_1 (i := 148) rfl rfl
theorem wd_149 : (Cond.fieldLink "GateTimes$Line" 16 "GateTimes$Item" "behind" "LGateTimes$Item;") ∈ aw := aw_1 (i := 149) rfl rfl
theorem wd_150 : (Cond.laysFinal "GateTimes$Item" "GateTimes$Item" "number" "I") ∈ aw := aw_1 (i := 150) rfl rfl
theorem wd_152 : (Cond.laysFinal "GateTimes$Item" "GateTimes$Item" "at" "J") ∈ aw := aw_1 (i := 152) rfl rfl
theorem wd_154 : (Cond.laysFinal "GateTimes$Item" "GateTimes$Item" "length" "J") ∈ aw := aw_1 (i := 154) rfl rfl
theorem wd_156 : (Cond.lays "GateTimes$Item" "GateTimes$Item" "order" "I") ∈ aw := aw_1 (i := 156) rfl rfl
theorem wd_158 : (Cond.lays "GateTimes$Item" "GateTimes$Item" "bin" "I") ∈ aw := aw_1 (i := 158) rfl rfl
theorem wd_160 : (Cond.lays "GateTimes$Item" "GateTimes$Item" "late" "I") ∈ aw := aw_1 (i := 160) rfl rfl
theorem wd_162 : (Cond.lays "GateTimes$Item" "GateTimes$Item" "behind" "LGateTimes$Item;") ∈ aw := aw_1 (i := 162) rfl rfl
theorem wd_165 : (Cond.methodLink "GateTimes" 78 ⟨"GateTimes$Row", "add", "(LGateTimes$Item;)V"⟩) ∈ aw := aw_1 (i := 165) rfl rfl
theorem wd_166 : (Cond.instanceMethod ⟨"GateTimes$Row", "add", "(LGateTimes$Item;)V"⟩) ∈ aw := aw_1 (i := 166) rfl rfl
theorem wd_167 : (Cond.selects "GateTimes$Row" ⟨"GateTimes$Row", "add", "(LGateTimes$Item;)V"⟩ ⟨"GateTimes$Row", "add", "(LGateTimes$Item;)V"⟩) ∈ aw := aw_1 (i := 167) rfl rfl
theorem wd_168 : (Cond.code ⟨"GateTimes$Row", "add", "(LGateTimes$Item;)V"⟩ prog_5_method_3_code 2 .none) ∈ aw := aw_1 (i := 168) rfl rfl
theorem wd_169 : (Cond.methodLink "GateTimes$Row" 21 ⟨"GateTimes$Row", "isFull", "()Z"⟩) ∈ aw := aw_1 (i := 169) rfl rfl
theorem wd_170 : (Cond.methodLink "GateTimes" 82 ⟨"GateTimes$Line", "join", "(LGateTimes$Item;)V"⟩) ∈ aw := aw_1 (i := 170) rfl rfl
theorem wd_171 : (Cond.instanceMethod ⟨"GateTimes$Line", "join", "(LGateTimes$Item;)V"⟩) ∈ aw := aw_1 (i := 171) rfl rfl
theorem wd_172 : (Cond.selects "GateTimes$Line" ⟨"GateTimes$Line", "join", "(LGateTimes$Item;)V"⟩ ⟨"GateTimes$Line", "join", "(LGateTimes$Item;)V"⟩) ∈ aw := aw_1 (i := 172) rfl rfl
theorem wd_173 : (Cond.code ⟨"GateTimes$Line", "join", "(LGateTimes$Item;)V"⟩ prog_4_method_2_code 2 .none) ∈ aw := aw_1 (i := 173) rfl rfl
theorem wd_174 : (Cond.methodLink "GateTimesLaw" 28 ⟨"GateTimes", "order", "(IIJ)I"⟩) ∈ aw := aw_1 (i := 174) rfl rfl
theorem wd_175 : (Cond.instanceMethod ⟨"GateTimes", "order", "(IIJ)I"⟩) ∈ aw := aw_1 (i := 175) rfl rfl
theorem wd_176 : (Cond.selects "GateTimes" ⟨"GateTimes", "order", "(IIJ)I"⟩ ⟨"GateTimes", "order", "(IIJ)I"⟩) ∈ aw := aw_1 (i := 176) rfl rfl
theorem wd_177 : (Cond.code ⟨"GateTimes", "order", "(IIJ)I"⟩ prog_1_method_3_code 8 (.some .int)) ∈ aw := aw_1 (i := 177) rfl rfl
theorem wd_178 : (Cond.methodLink "GateTimes" 88 ⟨"GateTimes", "itemOf", "(I)LGateTimes$Item;"⟩) ∈ aw := aw_1 (i := 178) rfl rfl
theorem wd_180 : (Cond.instanceMethod ⟨"GateTimes", "itemOf", "(I)LGateTimes$Item;"⟩) ∈ aw := aw_1 (i := 180) rfl rfl
theorem wd_181 : (Cond.code ⟨"GateTimes", "itemOf", "(I)LGateTimes$Item;"⟩ prog_1_method_14_code 2 (.some (.object "GateTimes$Item"))) ∈ aw := aw_1 (i := 181) rfl rfl
theorem wd_182 : (Cond.methodLink "GateTimes" 92 ⟨"GateTimes", "gateOf", "(I)LGateTimes$Gate;"⟩) ∈ aw := aw_1 (i := 182) rfl rfl
theorem wd_184 : (Cond.instanceMethod ⟨"GateTimes", "gateOf", "(I)LGateTimes$Gate;"⟩) ∈ aw := aw_1 (i := 184) rfl rfl
theorem wd_185 : (Cond.code ⟨"GateTimes", "gateOf", "(I)LGateTimes$Gate;"⟩ prog_1_method_15_code 2 (.some (.object "GateTimes$Gate"))) ∈ aw := aw_1 (i := 185) rfl rfl
theorem wd_186 : (Cond.methodLink "GateTimes" 96 ⟨"GateTimes", "passTo", "(J)V"⟩) ∈ aw := aw_1 (i := 186) rfl rfl
theorem wd_188 : (Cond.instanceMethod ⟨"GateTimes", "passTo", "(J)V"⟩) ∈ aw := aw_1 (i := 188) rfl rfl
theorem wd_189 : (Cond.code ⟨"GateTimes", "passTo", "(J)V"⟩ prog_1_method_16_code 5 .none) ∈ aw := aw_1 (i := 189) rfl rfl
theorem wd_190 : (Cond.methodLink "GateTimes" 138 ⟨"GateTimes", "nextPlace", "(J)I"⟩) ∈ aw := aw_1 (i := 190) rfl rfl
theorem wd_192 : (Cond.instanceMethod ⟨"GateTimes", "nextPlace", "(J)I"⟩) ∈ aw := aw_1 (i := 192) rfl rfl
theorem wd_193 : (Cond.code ⟨"GateTimes", "nextPlace", "(J)I"⟩ prog_1_method_17_code 8 (.some .int)) ∈ aw := aw_1 (i := 193) rfl rfl
theorem wd_194 : (Cond.methodLink "GateTimes" 108 ⟨"GateTimes$Item", "frontAt", "(I)J"⟩) ∈ aw := aw_1 (i := 194) rfl rfl
theorem wd_195 : (Cond.instanceMethod ⟨"GateTimes$Item", "frontAt", "(I)J"⟩) ∈ aw := aw_1 (i := 195) rfl rfl
theorem wd_196 : (Cond.selects "GateTimes$Item" ⟨"GateTimes$Item", "frontAt", "(I)J"⟩ ⟨"GateTimes$Item", "frontAt", "(I)J"⟩) ∈ aw := aw_1 (i := 196) rfl rfl
theorem wd_197 : (Cond.code ⟨"GateTimes$Item", "frontAt", "(I)J"⟩ prog_3_method_2_code 2 (.some .long)) ∈ aw := aw_1 (i := 197) rfl rfl
theorem wd_198 : (Cond.constantLong "GateTimes$Item" 35 (1000)) ∈ aw := aw_1 (i := 198) rfl rfl
theorem wd_199 : (Cond.methodLink "GateTimes" 142 ⟨"GateTimes", "moveAt", "(I)V"⟩) ∈ aw := aw_1 (i := 199) rfl rfl
theorem wd_201 : (Cond.instanceMethod ⟨"GateTimes", "moveAt", "(I)V"⟩) ∈ aw := aw_1 (i := 201) rfl rfl
theorem wd_202 : (Cond.code ⟨"GateTimes", "moveAt", "(I)V"⟩ prog_1_method_18_code 4 .none) ∈ aw := aw_1 (i := 202) rfl rfl
theorem wd_203 : (Cond.methodLink "GateTimes" 150 ⟨"GateTimes$Line", "leave", "()LGateTimes$Item;"⟩) ∈ aw := aw_1 (i := 203) rfl rfl
theorem wd_204 : (Cond.instanceMethod ⟨"GateTimes$Line", "leave", "()LGateTimes$Item;"⟩) ∈ aw := aw_1 (i := 204) rfl rfl
theorem wd_205 : (Cond.selects "GateTimes$Line" ⟨"GateTimes$Line", "leave", "()LGateTimes$Item;"⟩ ⟨"GateTimes$Line", "leave", "()LGateTimes$Item;"⟩) ∈ aw := aw_1 (i := 205) rfl rfl
theorem wd_206 : (Cond.code ⟨"GateTimes$Line", "leave", "()LGateTimes$Item;"⟩ prog_4_method_3_code 2 (.some (.object "GateTimes$Item"))) ∈ aw := aw_1 (i := 206) rfl rfl
theorem wd_207 : (Cond.methodLink "GateTimes" 154 ⟨"GateTimes$Gate", "takes", "(LGateTimes$Item;I)Z"⟩) ∈ aw := aw_1 (i := 207) rfl rfl
theorem wd_208 : (Cond.instanceMethod ⟨"GateTimes$Gate", "takes", "(LGateTimes$Item;I)Z"⟩) ∈ aw := aw_1 (i := 208) rfl rfl
theorem wd_209 : (Cond.selects "GateTimes$Gate" ⟨"GateTimes$Gate", "takes", "(LGateTimes$Item;I)Z"⟩ ⟨"GateTimes$Gate", "takes", "(LGateTimes$Item;I)Z"⟩) ∈ aw := aw_1 (i := 209) rfl rfl
theorem wd_210 : (Cond.code ⟨"GateTimes$Gate", "takes", "(LGateTimes$Item;I)Z"⟩ prog_2_method_2_code 4 (.some .boolean)) ∈ aw := aw_1 (i := 210) rfl rfl
theorem wd_211 : (Cond.methodLink "GateTimes$Gate" 34 ⟨"GateTimes$Item", "frontAt", "(I)J"⟩) ∈ aw := aw_1 (i := 211) rfl rfl
theorem wd_212 : (Cond.constantLong "GateTimes$Gate" 41 (200)) ∈ aw := aw_1 (i := 212) rfl rfl
theorem wd_213 : (Cond.methodLink "GateTimes" 158 ⟨"GateTimes", "putInto", "(ILGateTimes$Item;)V"⟩) ∈ aw := aw_1 (i := 213) rfl rfl
theorem wd_215 : (Cond.instanceMethod ⟨"GateTimes", "putInto", "(ILGateTimes$Item;)V"⟩) ∈ aw := aw_1 (i := 215) rfl rfl
theorem wd_216 : (Cond.code ⟨"GateTimes", "putInto", "(ILGateTimes$Item;)V"⟩ prog_1_method_19_code 3 .none) ∈ aw := aw_1 (i := 216) rfl rfl
theorem wd_217 : (Cond.constantLong "GateTimes" 106 (200)) ∈ aw := aw_1 (i := 217) rfl rfl
theorem wd_218 : (Cond.methodLink "GateTimesLaw" 33 ⟨"GateTimes", "step", "(J)I"⟩) ∈ aw := aw_1 (i := 218) rfl rfl
theorem wd_219 : (Cond.instanceMethod ⟨"GateTimes", "step", "(J)I"⟩) ∈ aw := aw_1 (i := 219) rfl rfl
theorem wd_220 : (Cond.selects "GateTimes" ⟨"GateTimes", "step", "(J)I"⟩ ⟨"GateTimes", "step", "(J)I"⟩) ∈ aw := aw_1 (i := 220) rfl rfl
theorem wd_221 : (Cond.code ⟨"GateTimes", "step", "(J)I"⟩ prog_1_method_4_code 4 (.some .int)) ∈ aw := aw_1 (i := 221) rfl rfl
theorem wd_222 : (Cond.methodLink "GateTimesLaw" 38 ⟨"GateTimes", "out", "(II)I"⟩) ∈ aw := aw_1 (i := 222) rfl rfl
theorem wd_223 : (Cond.instanceMethod ⟨"GateTimes", "out", "(II)I"⟩) ∈ aw := aw_1 (i := 223) rfl rfl
theorem wd_224 : (Cond.selects "GateTimes" ⟨"GateTimes", "out", "(II)I"⟩ ⟨"GateTimes", "out", "(II)I"⟩) ∈ aw := aw_1 (i := 224) rfl rfl
theorem wd_225 : (Cond.code ⟨"GateTimes", "out", "(II)I"⟩ prog_1_method_5_code 4 (.some .int)) ∈ aw := aw_1 (i := 225) rfl rfl
theorem wd_226 : (Cond.methodLink "GateTimesLaw" 43 ⟨"GateTimes", "height", "(II)I"⟩) ∈ aw := aw_1 (i := 226) rfl rfl
theorem wd_227 : (Cond.instanceMethod ⟨"GateTimes", "height", "(II)I"⟩) ∈ aw := aw_1 (i := 227) rfl rfl
theorem wd_228 : (Cond.selects "GateTimes" ⟨"GateTimes", "height", "(II)I"⟩ ⟨"GateTimes", "height", "(II)I"⟩) ∈ aw := aw_1 (i := 228) rfl rfl
theorem wd_229 : (Cond.code ⟨"GateTimes", "height", "(II)I"⟩ prog_1_method_6_code 5 (.some .int)) ∈ aw := aw_1 (i := 229) rfl rfl
theorem wd_230 : (Cond.methodLink "GateTimesLaw" 47 ⟨"GateTimes", "swap", "(I)I"⟩) ∈ aw := aw_1 (i := 230) rfl rfl
theorem wd_231 : (Cond.instanceMethod ⟨"GateTimes", "swap", "(I)I"⟩) ∈ aw := aw_1 (i := 231) rfl rfl
theorem wd_232 : (Cond.selects "GateTimes" ⟨"GateTimes", "swap", "(I)I"⟩ ⟨"GateTimes", "swap", "(I)I"⟩) ∈ aw := aw_1 (i := 232) rfl rfl
theorem wd_233 : (Cond.code ⟨"GateTimes", "swap", "(I)I"⟩ prog_1_method_7_code 4 (.some .int)) ∈ aw := aw_1 (i := 233) rfl rfl
theorem wd_234 : (Cond.methodLink "GateTimesLaw" 52 ⟨"GateTimes", "stuck", "(IZ)I"⟩) ∈ aw := aw_1 (i := 234) rfl rfl
theorem wd_235 : (Cond.instanceMethod ⟨"GateTimes", "stuck", "(IZ)I"⟩) ∈ aw := aw_1 (i := 235) rfl rfl
theorem wd_236 : (Cond.selects "GateTimes" ⟨"GateTimes", "stuck", "(IZ)I"⟩ ⟨"GateTimes", "stuck", "(IZ)I"⟩) ∈ aw := aw_1 (i := 236) rfl rfl
theorem wd_237 : (Cond.code ⟨"GateTimes", "stuck", "(IZ)I"⟩ prog_1_method_8_code 4 (.some .int)) ∈ aw := aw_1 (i := 237) rfl rfl
theorem wd_238 : (Cond.methodLink "GateTimesLaw" 57 ⟨"GateTimes", "late", "(I)I"⟩) ∈ aw := aw_1 (i := 238) rfl rfl
theorem wd_239 : (Cond.instanceMethod ⟨"GateTimes", "late", "(I)I"⟩) ∈ aw := aw_1 (i := 239) rfl rfl
theorem wd_240 : (Cond.selects "GateTimes" ⟨"GateTimes", "late", "(I)I"⟩ ⟨"GateTimes", "late", "(I)I"⟩) ∈ aw := aw_2 (i := 0) rfl rfl
theorem wd_241 : (Cond.code ⟨"GateTimes", "late", "(I)I"⟩ prog_1_method_9_code 3 (.some .int)) ∈ aw := aw_2 (i := 1) rfl rfl
theorem wd_242 : (Cond.methodLink "GateTimesLaw" 61 ⟨"GateTimes", "count", "(I)I"⟩) ∈ aw := aw_2 (i := 2) rfl rfl
theorem wd_243 : (Cond.instanceMethod ⟨"GateTimes", "count", "(I)I"⟩) ∈ aw := aw_2 (i := 3) rfl rfl
theorem wd_244 : (Cond.selects "GateTimes" ⟨"GateTimes", "count", "(I)I"⟩ ⟨"GateTimes", "count", "(I)I"⟩) ∈ aw := aw_2 (i := 4) rfl rfl
theorem wd_245 : (Cond.code ⟨"GateTimes", "count", "(I)I"⟩ prog_1_method_10_code 2 (.some .int)) ∈ aw := aw_2 (i := 5) rfl rfl
theorem wd_246 : (Cond.methodLink "GateTimesLaw" 65 ⟨"GateTimes", "verify", "(II)I"⟩) ∈ aw := aw_2 (i := 6) rfl rfl
theorem wd_247 : (Cond.instanceMethod ⟨"GateTimes", "verify", "(II)I"⟩) ∈ aw := aw_2 (i := 7) rfl rfl
theorem wd_248 : (Cond.selects "GateTimes" ⟨"GateTimes", "verify", "(II)I"⟩ ⟨"GateTimes", "verify", "(II)I"⟩) ∈ aw := aw_2 (i := 8) rfl rfl
theorem wd_249 : (Cond.code ⟨"GateTimes", "verify", "(II)I"⟩ prog_1_method_11_code 4 (.some .int)) ∈ aw := aw_2 (i := 9) rfl rfl
theorem wd_250 : (Cond.methodLink "GateTimesLaw" 9 ⟨"GateTimesLaw", "cell", "([II)I"⟩) ∈ aw := aw_2 (i := 10) rfl rfl
theorem wd_251 : (Cond.static ⟨"GateTimesLaw", "cell", "([II)I"⟩) ∈ aw := aw_2 (i := 11) rfl rfl
theorem wd_252 : (Cond.code ⟨"GateTimesLaw", "cell", "([II)I"⟩ method_2_code 2 (.some .int)) ∈ aw := aw_2 (i := 12) rfl rfl
theorem wd_253 : (Cond.classLink "GateTimesLaw" 18 "GateTimesModel") ∈ aw := aw_2 (i := 13) rfl rfl
theorem wd_254 : (Cond.instantiable "GateTimesModel" 21) ∈ aw := aw_2 (i := 14) rfl rfl
theorem wd_255 : (Cond.methodLink "GateTimesLaw" 20 ⟨"GateTimesModel", "<init>", "(I)V"⟩) ∈ aw := aw_2 (i := 15) rfl rfl
theorem wd_256 : (Cond.instanceMethod ⟨"GateTimesModel", "<init>", "(I)V"⟩) ∈ aw := aw_2 (i := 16) rfl rfl
theorem wd_257 : (Cond.code ⟨"GateTimesModel", "<init>", "(I)V"⟩ prog_7_method_1_code 3 .none) ∈ aw := aw_2 (i := 17) rfl rfl
theorem wd_258 : (Cond.methodLink "GateTimesModel" 1 ⟨"java/lang/Object", "<init>", "()V"⟩) ∈ aw := aw_2 (i := 18) rfl rfl
theorem wd_259 : (Cond.fieldLink "GateTimesModel" 61 "GateTimesModel" "thrown" "I") ∈ aw := aw_2 (i := 19) rfl rfl
theorem wd_260 : (Cond.fieldLink "GateTimesModel" 57 "GateTimesModel" "gates" "I") ∈ aw := aw_2 (i := 20) rfl rfl
theorem wd_261 : (Cond.fieldLink "GateTimesModel" 64 "GateTimesModel" "items" "I") ∈ aw := aw_2 (i := 21) rfl rfl
theorem wd_262 : (Cond.fieldLink "GateTimesModel" 7 "GateTimesModel" "ats" "[J") ∈ aw := aw_2 (i := 22) rfl rfl
theorem wd_263 : (Cond.fieldLink "GateTimesModel" 13 "GateTimesModel" "lengths" "[J") ∈ aw := aw_2 (i := 23) rfl rfl
theorem wd_264 : (Cond.fieldLink "GateTimesModel" 16 "GateTimesModel" "orders" "[I") ∈ aw := aw_2 (i := 24) rfl rfl
theorem wd_265 : (Cond.fieldLink "GateTimesModel" 20 "GateTimesModel" "nexts" "[I") ∈ aw := aw_2 (i := 25) rfl rfl
theorem wd_266 : (Cond.fieldLink "GateTimesModel" 23 "GateTimesModel" "bins" "[I") ∈ aw := aw_2 (i := 26) rfl rfl
theorem wd_267 : (Cond.fieldLink "GateTimesModel" 26 "GateTimesModel" "lates" "[I") ∈ aw := aw_2 (i := 27) rfl rfl
theorem wd_268 : (Cond.fieldLink "GateTimesModel" 29 "GateTimesModel" "times" "[J") ∈ aw := aw_2 (i := 28) rfl rfl
theorem wd_269 : (Cond.fieldLink "GateTimesModel" 32 "GateTimesModel" "open" "[Z") ∈ aw := aw_2 (i := 29) rfl rfl
theorem wd_270 : (Cond.fieldLink "GateTimesModel" 36 "GateTimesModel" "stuck" "[Z") ∈ aw := aw_2 (i := 30) rfl rfl
theorem wd_271 : (Cond.fieldLink "GateTimesModel" 39 "GateTimesModel" "used" "[Z") ∈ aw := aw_2 (i := 31) rfl rfl
theorem wd_272 : (Cond.fieldLink "GateTimesModel" 42 "GateTimesModel" "ends" "[J") ∈ aw := aw_2 (i := 32) rfl rfl
theorem wd_273 : (Cond.fieldLink "GateTimesModel" 45 "GateTimesModel" "heights" "[I") ∈ aw := aw_2 (i := 33) rfl rfl
theorem wd_274 : (Cond.fieldLink "GateTimesModel" 48 "GateTimesModel" "holds" "[I") ∈ aw := aw_2 (i := 34) rfl rfl
theorem wd_275 : (Cond.fieldLink "GateTimesModel" 51 "GateTimesModel" "counts" "[I") ∈ aw := aw_2 (i := 35) rfl rfl
theorem wd_276 : (Cond.fieldLink "GateTimesModel" 75 "GateTimesModel" "now" "J") ∈ aw := aw_2 (i := 36) rfl rfl
theorem wd_277 : (Cond.fieldLink "GateTimesModel" 93 "GateTimesModel" "outs" "I") ∈ aw := aw_2 (i := 37) rfl rfl
theorem wd_278 : (Cond.fieldLink "GateTimesModel" 54 "GateTimesModel" "out" "[I") ∈ aw := aw_2 (i := 38) rfl rfl
theorem wd_279 : (Cond.fieldLink "GateTimesModel" 107 "GateTimesModel" "told" "I") ∈ aw := aw_2 (i := 39) rfl rfl
theorem wd_280 : (Cond.lays "GateTimesModel" "GateTimesModel" "thrown" "I") ∈ aw := aw_2 (i := 40) rfl rfl
theorem wd_282 : (Cond.laysFinal "GateTimesModel" "GateTimesModel" "gates" "I") ∈ aw := aw_2 (i := 42) rfl rfl
theorem wd_284 : (Cond.lays "GateTimesModel" "GateTimesModel" "items" "I") ∈ aw := aw_2 (i := 44) rfl rfl
theorem wd_286 : (Cond.laysFinal "GateTimesModel" "GateTimesModel" "ats" "[J") ∈ aw := aw_2 (i := 46) rfl rfl
theorem wd_288 : (Cond.laysFinal "GateTimesModel" "GateTimesModel" "lengths" "[J") ∈ aw := aw_2 (i := 48) rfl rfl
theorem wd_290 : (Cond.laysFinal "GateTimesModel" "GateTimesModel" "orders" "[I") ∈ aw := aw_2 (i := 50) rfl rfl
theorem wd_292 : (Cond.laysFinal "GateTimesModel" "GateTimesModel" "nexts" "[I") ∈ aw := aw_2 (i := 52) rfl rfl
theorem wd_294 : (Cond.laysFinal "GateTimesModel" "GateTimesModel" "bins" "[I") ∈ aw := aw_2 (i := 54) rfl rfl
theorem wd_296 : (Cond.laysFinal "GateTimesModel" "GateTimesModel" "lates" "[I") ∈ aw := aw_2 (i := 56) rfl rfl
theorem wd_298 : (Cond.laysFinal "GateTimesModel" "GateTimesModel" "times" "[J") ∈ aw := aw_2 (i := 58) rfl rfl
theorem wd_300 : (Cond.laysFinal "GateTimesModel" "GateTimesModel" "open" "[Z") ∈ aw := aw_2 (i := 60) rfl rfl
theorem wd_302 : (Cond.laysFinal "GateTimesModel" "GateTimesModel" "stuck" "[Z") ∈ aw := aw_2 (i := 62) rfl rfl
theorem wd_304 : (Cond.laysFinal "GateTimesModel" "GateTimesModel" "used" "[Z") ∈ aw := aw_2 (i := 64) rfl rfl
theorem wd_306 : (Cond.laysFinal "GateTimesModel" "GateTimesModel" "ends" "[J") ∈ aw := aw_2 (i := 66) rfl rfl
theorem wd_308 : (Cond.laysFinal "GateTimesModel" "GateTimesModel" "heights" "[I") ∈ aw := aw_2 (i := 68) rfl rfl
theorem wd_310 : (Cond.laysFinal "GateTimesModel" "GateTimesModel" "holds" "[I") ∈ aw := aw_2 (i := 70) rfl rfl
theorem wd_312 : (Cond.laysFinal "GateTimesModel" "GateTimesModel" "counts" "[I") ∈ aw := aw_2 (i := 72) rfl rfl
theorem wd_314 : (Cond.lays "GateTimesModel" "GateTimesModel" "now" "J") ∈ aw := aw_2 (i := 74) rfl rfl
theorem wd_316 : (Cond.lays "GateTimesModel" "GateTimesModel" "outs" "I") ∈ aw := aw_2 (i := 76) rfl rfl
theorem wd_318 : (Cond.laysFinal "GateTimesModel" "GateTimesModel" "out" "[I") ∈ aw := aw_2 (i := 78) rfl rfl
theorem wd_320 : (Cond.lays "GateTimesModel" "GateTimesModel" "told" "I") ∈ aw := aw_2 (i := 80) rfl rfl
theorem wd_323 : (Cond.arrayClass .long) ∈ aw := aw_2 (i := 83) rfl rfl
theorem wd_324 : (Cond.arrayClass .boolean) ∈ aw := aw_2 (i := 84) rfl rfl
theorem wd_325 : (Cond.methodLink "GateTimesLaw" 27 ⟨"GateTimesModel", "item", "(JJ)I"⟩) ∈ aw := aw_2 (i := 85) rfl rfl
theorem wd_326 : (Cond.instanceMethod ⟨"GateTimesModel", "item", "(JJ)I"⟩) ∈ aw := aw_2 (i := 86) rfl rfl
theorem wd_327 : (Cond.selects "GateTimesModel" ⟨"GateTimesModel", "item", "(JJ)I"⟩ ⟨"GateTimesModel", "item", "(JJ)I"⟩) ∈ aw := aw_2 (i := 87) rfl rfl
theorem wd_328 : (Cond.code ⟨"GateTimesModel", "item", "(JJ)I"⟩ prog_7_method_6_code 6 (.some .int)) ∈ aw := aw_2 (i := 88) rfl rfl
theorem wd_329 : (Cond.constantLong "GateTimesModel" 71 (50)) ∈ aw := aw_2 (i := 89) rfl rfl
theorem wd_330 : (Cond.constantLong "GateTimesModel" 73 (900)) ∈ aw := aw_2 (i := 90) rfl rfl
theorem wd_331 : (Cond.methodLink "GateTimesModel" 67 ⟨"GateTimesModel", "isIn", "(JJJ)Z"⟩) ∈ aw := aw_2 (i := 91) rfl rfl
theorem wd_332 : (Cond.static ⟨"GateTimesModel", "isIn", "(JJJ)Z"⟩) ∈ aw := aw_2 (i := 92) rfl rfl
theorem wd_333 : (Cond.code ⟨"GateTimesModel", "isIn", "(JJJ)Z"⟩ prog_7_method_3_code 6 (.some .boolean)) ∈ aw := aw_2 (i := 93) rfl rfl
theorem wd_334 : (Cond.constantLong "GateTimesModel" 79 (1000000000)) ∈ aw := aw_2 (i := 94) rfl rfl
theorem wd_335 : (Cond.methodLink "GateTimesLaw" 32 ⟨"GateTimesModel", "order", "(IIJ)I"⟩) ∈ aw := aw_2 (i := 95) rfl rfl
theorem wd_336 : (Cond.instanceMethod ⟨"GateTimesModel", "order", "(IIJ)I"⟩) ∈ aw := aw_2 (i := 96) rfl rfl
theorem wd_337 : (Cond.selects "GateTimesModel" ⟨"GateTimesModel", "order", "(IIJ)I"⟩ ⟨"GateTimesModel", "order", "(IIJ)I"⟩) ∈ aw := aw_2 (i := 97) rfl rfl
theorem wd_338 : (Cond.code ⟨"GateTimesModel", "order", "(IIJ)I"⟩ prog_7_method_10_code 7 (.some .int)) ∈ aw := aw_2 (i := 98) rfl rfl
theorem wd_339 : (Cond.methodLink "GateTimesModel" 96 ⟨"GateTimesModel", "isItem", "(I)Z"⟩) ∈ aw := aw_2 (i := 99) rfl rfl
theorem wd_341 : (Cond.instanceMethod ⟨"GateTimesModel", "isItem", "(I)Z"⟩) ∈ aw := aw_2 (i := 101) rfl rfl
theorem wd_342 : (Cond.code ⟨"GateTimesModel", "isItem", "(I)Z"⟩ prog_7_method_4_code 2 (.some .boolean)) ∈ aw := aw_2 (i := 102) rfl rfl
theorem wd_343 : (Cond.methodLink "GateTimesModel" 100 ⟨"GateTimesModel", "isBin", "(I)Z"⟩) ∈ aw := aw_2 (i := 103) rfl rfl
theorem wd_345 : (Cond.instanceMethod ⟨"GateTimesModel", "isBin", "(I)Z"⟩) ∈ aw := aw_2 (i := 105) rfl rfl
theorem wd_346 : (Cond.code ⟨"GateTimesModel", "isBin", "(I)Z"⟩ prog_7_method_5_code 2 (.some .boolean)) ∈ aw := aw_2 (i := 106) rfl rfl
theorem wd_347 : (Cond.methodLink "GateTimesModel" 103 ⟨"GateTimesModel", "pass", "(J)V"⟩) ∈ aw := aw_2 (i := 107) rfl rfl
theorem wd_349 : (Cond.instanceMethod ⟨"GateTimesModel", "pass", "(J)V"⟩) ∈ aw := aw_2 (i := 109) rfl rfl
theorem wd_350 : (Cond.code ⟨"GateTimesModel", "pass", "(J)V"⟩ prog_7_method_9_code 6 .none) ∈ aw := aw_2 (i := 110) rfl rfl
theorem wd_351 : (Cond.methodLink "GateTimesModel" 83 ⟨"GateTimesModel", "front", "(II)J"⟩) ∈ aw := aw_2 (i := 111) rfl rfl
theorem wd_353 : (Cond.instanceMethod ⟨"GateTimesModel", "front", "(II)J"⟩) ∈ aw := aw_2 (i := 113) rfl rfl
theorem wd_354 : (Cond.code ⟨"GateTimesModel", "front", "(II)J"⟩ prog_7_method_7_code 3 (.some .long)) ∈ aw := aw_2 (i := 114) rfl rfl
theorem wd_355 : (Cond.constantLong "GateTimesModel" 81 (1000)) ∈ aw := aw_2 (i := 115) rfl rfl
theorem wd_356 : (Cond.methodLink "GateTimesModel" 89 ⟨"GateTimesModel", "at", "(II)V"⟩) ∈ aw := aw_2 (i := 116) rfl rfl
theorem wd_358 : (Cond.instanceMethod ⟨"GateTimesModel", "at", "(II)V"⟩) ∈ aw := aw_2 (i := 118) rfl rfl
theorem wd_359 : (Cond.code ⟨"GateTimesModel", "at", "(II)V"⟩ prog_7_method_8_code 7 .none) ∈ aw := aw_2 (i := 119) rfl rfl
theorem wd_360 : (Cond.constantLong "GateTimesModel" 87 (200)) ∈ aw := aw_2 (i := 120) rfl rfl
theorem wd_361 : (Cond.methodLink "GateTimesLaw" 37 ⟨"GateTimesModel", "step", "(J)I"⟩) ∈ aw := aw_2 (i := 121) rfl rfl
theorem wd_362 : (Cond.instanceMethod ⟨"GateTimesModel", "step", "(J)I"⟩) ∈ aw := aw_2 (i := 122) rfl rfl
theorem wd_363 : (Cond.selects "GateTimesModel" ⟨"GateTimesModel", "step", "(J)I"⟩ ⟨"GateTimesModel", "step", "(J)I"⟩) ∈ aw := aw_2 (i := 123) rfl rfl
theorem wd_364 : (Cond.code ⟨"GateTimesModel", "step", "(J)I"⟩ prog_7_method_11_code 4 (.some .int)) ∈ aw := aw_2 (i := 124) rfl rfl
theorem wd_365 : (Cond.methodLink "GateTimesLaw" 42 ⟨"GateTimesModel", "out", "(II)I"⟩) ∈ aw := aw_2 (i := 125) rfl rfl
theorem wd_366 : (Cond.instanceMethod ⟨"GateTimesModel", "out", "(II)I"⟩) ∈ aw := aw_2 (i := 126) rfl rfl
theorem wd_367 : (Cond.selects "GateTimesModel" ⟨"GateTimesModel", "out", "(II)I"⟩ ⟨"GateTimesModel", "out", "(II)I"⟩) ∈ aw := aw_2 (i := 127) rfl rfl
theorem wd_368 : (Cond.code ⟨"GateTimesModel", "out", "(II)I"⟩ prog_7_method_12_code 3 (.some .int)) ∈ aw := aw_2 (i := 128) rfl rfl
theorem wd_369 : (Cond.methodLink "GateTimesLaw" 46 ⟨"GateTimesModel", "height", "(II)I"⟩) ∈ aw := aw_2 (i := 129) rfl rfl
theorem wd_370 : (Cond.instanceMethod ⟨"GateTimesModel", "height", "(II)I"⟩) ∈ aw := aw_2 (i := 130) rfl rfl
theorem wd_371 : (Cond.selects "GateTimesModel" ⟨"GateTimesModel", "height", "(II)I"⟩ ⟨"GateTimesModel", "height", "(II)I"⟩) ∈ aw := aw_2 (i := 131) rfl rfl
theorem wd_372 : (Cond.code ⟨"GateTimesModel", "height", "(II)I"⟩ prog_7_method_13_code 4 (.some .int)) ∈ aw := aw_2 (i := 132) rfl rfl
theorem wd_373 : (Cond.methodLink "GateTimesLaw" 51 ⟨"GateTimesModel", "swap", "(I)I"⟩) ∈ aw := aw_2 (i := 133) rfl rfl
theorem wd_374 : (Cond.instanceMethod ⟨"GateTimesModel", "swap", "(I)I"⟩) ∈ aw := aw_2 (i := 134) rfl rfl
theorem wd_375 : (Cond.selects "GateTimesModel" ⟨"GateTimesModel", "swap", "(I)I"⟩ ⟨"GateTimesModel", "swap", "(I)I"⟩) ∈ aw := aw_2 (i := 135) rfl rfl
theorem wd_376 : (Cond.code ⟨"GateTimesModel", "swap", "(I)I"⟩ prog_7_method_14_code 3 (.some .int)) ∈ aw := aw_2 (i := 136) rfl rfl
theorem wd_377 : (Cond.methodLink "GateTimesLaw" 56 ⟨"GateTimesModel", "stuck", "(IZ)I"⟩) ∈ aw := aw_2 (i := 137) rfl rfl
theorem wd_378 : (Cond.instanceMethod ⟨"GateTimesModel", "stuck", "(IZ)I"⟩) ∈ aw := aw_2 (i := 138) rfl rfl
theorem wd_379 : (Cond.selects "GateTimesModel" ⟨"GateTimesModel", "stuck", "(IZ)I"⟩ ⟨"GateTimesModel", "stuck", "(IZ)I"⟩) ∈ aw := aw_2 (i := 139) rfl rfl
theorem wd_380 : (Cond.code ⟨"GateTimesModel", "stuck", "(IZ)I"⟩ prog_7_method_15_code 4 (.some .int)) ∈ aw := aw_2 (i := 140) rfl rfl
theorem wd_381 : (Cond.methodLink "GateTimesLaw" 60 ⟨"GateTimesModel", "late", "(I)I"⟩) ∈ aw := aw_2 (i := 141) rfl rfl
theorem wd_382 : (Cond.instanceMethod ⟨"GateTimesModel", "late", "(I)I"⟩) ∈ aw := aw_2 (i := 142) rfl rfl
theorem wd_383 : (Cond.selects "GateTimesModel" ⟨"GateTimesModel", "late", "(I)I"⟩ ⟨"GateTimesModel", "late", "(I)I"⟩) ∈ aw := aw_2 (i := 143) rfl rfl
theorem wd_384 : (Cond.code ⟨"GateTimesModel", "late", "(I)I"⟩ prog_7_method_16_code 2 (.some .int)) ∈ aw := aw_2 (i := 144) rfl rfl
theorem wd_385 : (Cond.methodLink "GateTimesLaw" 64 ⟨"GateTimesModel", "count", "(I)I"⟩) ∈ aw := aw_2 (i := 145) rfl rfl
theorem wd_386 : (Cond.instanceMethod ⟨"GateTimesModel", "count", "(I)I"⟩) ∈ aw := aw_2 (i := 146) rfl rfl
theorem wd_387 : (Cond.selects "GateTimesModel" ⟨"GateTimesModel", "count", "(I)I"⟩ ⟨"GateTimesModel", "count", "(I)I"⟩) ∈ aw := aw_2 (i := 147) rfl rfl
theorem wd_388 : (Cond.code ⟨"GateTimesModel", "count", "(I)I"⟩ prog_7_method_17_code 2 (.some .int)) ∈ aw := aw_2 (i := 148) rfl rfl
theorem wd_389 : (Cond.methodLink "GateTimesLaw" 68 ⟨"GateTimesModel", "verify", "(II)I"⟩) ∈ aw := aw_2 (i := 149) rfl rfl
theorem wd_390 : (Cond.instanceMethod ⟨"GateTimesModel", "verify", "(II)I"⟩) ∈ aw := aw_2 (i := 150) rfl rfl
theorem wd_391 : (Cond.selects "GateTimesModel" ⟨"GateTimesModel", "verify", "(II)I"⟩ ⟨"GateTimesModel", "verify", "(II)I"⟩) ∈ aw := aw_2 (i := 151) rfl rfl
theorem wd_392 : (Cond.code ⟨"GateTimesModel", "verify", "(II)I"⟩ prog_7_method_18_code 7 (.some .int)) ∈ aw := aw_2 (i := 152) rfl rfl
theorem wd_393 : (Cond.constantLong "GateTimesLaw" 21 (4294967295)) ∈ aw := aw_2 (i := 153) rfl rfl
theorem wp_0 : (Cond.selects "GateTimes" ⟨"GateTimes", "isTimeAhead", "(J)Z"⟩ ⟨"GateTimes", "isTimeAhead", "(J)Z"⟩) ∈ aw := aw_p (i := 0) rfl rfl
theorem wp_1 : (Cond.selects "GateTimes" ⟨"GateTimes", "isBehindLastItem", "(J)Z"⟩ ⟨"GateTimes", "isBehindLastItem", "(J)Z"⟩) ∈ aw := aw_p (i := 1) rfl rfl
theorem wp_2 : (Cond.selects "GateTimes" ⟨"GateTimes", "itemOf", "(I)LGateTimes$Item;"⟩ ⟨"GateTimes", "itemOf", "(I)LGateTimes$Item;"⟩) ∈ aw := aw_p (i := 2) rfl rfl
theorem wp_3 : (Cond.selects "GateTimes" ⟨"GateTimes", "gateOf", "(I)LGateTimes$Gate;"⟩ ⟨"GateTimes", "gateOf", "(I)LGateTimes$Gate;"⟩) ∈ aw := aw_p (i := 3) rfl rfl
theorem wp_4 : (Cond.selects "GateTimes" ⟨"GateTimes", "passTo", "(J)V"⟩ ⟨"GateTimes", "passTo", "(J)V"⟩) ∈ aw := aw_p (i := 4) rfl rfl
theorem wp_5 : (Cond.selects "GateTimes" ⟨"GateTimes", "nextPlace", "(J)I"⟩ ⟨"GateTimes", "nextPlace", "(J)I"⟩) ∈ aw := aw_p (i := 5) rfl rfl
theorem wp_6 : (Cond.selects "GateTimes" ⟨"GateTimes", "moveAt", "(I)V"⟩ ⟨"GateTimes", "moveAt", "(I)V"⟩) ∈ aw := aw_p (i := 6) rfl rfl
theorem wp_7 : (Cond.selects "GateTimes" ⟨"GateTimes", "putInto", "(ILGateTimes$Item;)V"⟩ ⟨"GateTimes", "putInto", "(ILGateTimes$Item;)V"⟩) ∈ aw := aw_p (i := 7) rfl rfl
theorem wp_8 : (Cond.selects "GateTimesModel" ⟨"GateTimesModel", "isItem", "(I)Z"⟩ ⟨"GateTimesModel", "isItem", "(I)Z"⟩) ∈ aw := aw_p (i := 8) rfl rfl
theorem wp_9 : (Cond.selects "GateTimesModel" ⟨"GateTimesModel", "isBin", "(I)Z"⟩ ⟨"GateTimesModel", "isBin", "(I)Z"⟩) ∈ aw := aw_p (i := 9) rfl rfl
theorem wp_10 : (Cond.selects "GateTimesModel" ⟨"GateTimesModel", "pass", "(J)V"⟩ ⟨"GateTimesModel", "pass", "(J)V"⟩) ∈ aw := aw_p (i := 10) rfl rfl
theorem wp_11 : (Cond.selects "GateTimesModel" ⟨"GateTimesModel", "front", "(II)J"⟩ ⟨"GateTimesModel", "front", "(II)J"⟩) ∈ aw := aw_p (i := 11) rfl rfl
theorem wp_12 : (Cond.selects "GateTimesModel" ⟨"GateTimesModel", "at", "(II)V"⟩ ⟨"GateTimesModel", "at", "(II)V"⟩) ∈ aw := aw_p (i := 12) rfl rfl
