abbrev kGT : Nat := 0
def F_GT : u_T := fun k => match k with
  | 0 => ("GateTimes", "gates", "[LGateTimes$Gate;", true)
  | 1 => ("GateTimes", "lines", "[LGateTimes$Line;", true)
  | 2 => ("GateTimes", "came", "[I", true)
  | 3 => ("GateTimes", "items", "LGateTimes$Row;", true)
  | 4 => ("GateTimes", "arrived", "LGateTimes$Row;", true)
  | 5 => ("GateTimes", "wrong", "LGateTimes$Row;", true)
  | 6 => ("GateTimes", "arrivedAtLastStep", "I", false)
  | _ => ("GateTimes", "now", "J", false)
def t_GT : Nat → FieldType := fun k => match k with
  | 0 => .array (.object "GateTimes$Gate")
  | 1 => .array (.object "GateTimes$Line")
  | 2 => .array .int
  | 3 => .object "GateTimes$Row"
  | 4 => .object "GateTimes$Row"
  | 5 => .object "GateTimes$Row"
  | 6 => .int
  | _ => .long
theorem n_GT : ∀ a, a < 8 → ∀ b, b < 8 → a ≠ b → (F_GT a).2.1 ≠ (F_GT b).2.1 := by decide +kernel
theorem t_GT_ok : ∀ k, k < 8 → parseFieldDescriptor (F_GT k).2.2.1 = some (t_GT k) := by decide +kernel
theorem i_GT : ∀ w ∈ u_ws "GateTimes" F_GT 8, w ∈ aw := by
  intro w hw
  obtain ⟨k, hk, rfl⟩ := List.mem_map.mp hw
  have hk := List.mem_range.mp hk
  match k, hk with
  | 0, _ => exact wd_88
  | 1, _ => exact wd_90
  | 2, _ => exact wd_92
  | 3, _ => exact wd_94
  | 4, _ => exact wd_96
  | 5, _ => exact wd_98
  | 6, _ => exact wd_100
  | 7, _ => exact wd_102
  | z + 8, hz => exact absurd hz (by omega)
abbrev kGate : Nat := 1
def F_Gate : u_T := fun k => match k with
  | 0 => ("GateTimes$Gate", "open", "Z", false)
  | 1 => ("GateTimes$Gate", "stuck", "Z", false)
  | 2 => ("GateTimes$Gate", "height", "I", false)
  | 3 => ("GateTimes$Gate", "held", "I", false)
  | _ => ("GateTimes$Gate", "freeFrom", "J", false)
def t_Gate : Nat → FieldType := fun k => match k with
  | 0 => .boolean
  | 1 => .boolean
  | 2 => .int
  | 3 => .int
  | _ => .long
theorem n_Gate : ∀ a, a < 5 → ∀ b, b < 5 → a ≠ b → (F_Gate a).2.1 ≠ (F_Gate b).2.1 := by decide +kernel
theorem t_Gate_ok : ∀ k, k < 5 → parseFieldDescriptor (F_Gate k).2.2.1 = some (t_Gate k) := by decide +kernel
theorem i_Gate : ∀ w ∈ u_ws "GateTimes$Gate" F_Gate 5, w ∈ aw := by
  intro w hw
  obtain ⟨k, hk, rfl⟩ := List.mem_map.mp hw
  have hk := List.mem_range.mp hk
  match k, hk with
  | 0, _ => exact wd_55
  | 1, _ => exact wd_57
  | 2, _ => exact wd_59
  | 3, _ => exact wd_61
  | 4, _ => exact wd_63
  | z + 5, hz => exact absurd hz (by omega)
abbrev kLine : Nat := 2
def F_Line : u_T := fun k => match k with
  | 0 => ("GateTimes$Line", "first", "LGateTimes$Item;", false)
  | _ => ("GateTimes$Line", "last", "LGateTimes$Item;", false)
def t_Line : Nat → FieldType := fun k => match k with
  | 0 => .object "GateTimes$Item"
  | _ => .object "GateTimes$Item"
theorem n_Line : ∀ a, a < 2 → ∀ b, b < 2 → a ≠ b → (F_Line a).2.1 ≠ (F_Line b).2.1 := by decide +kernel
theorem t_Line_ok : ∀ k, k < 2 → parseFieldDescriptor (F_Line k).2.2.1 = some (t_Line k) := by decide +kernel
theorem i_Line : ∀ w ∈ u_ws "GateTimes$Line" F_Line 2, w ∈ aw := by
  intro w hw
  obtain ⟨k, hk, rfl⟩ := List.mem_map.mp hw
  have hk := List.mem_range.mp hk
  match k, hk with
  | 0, _ => exact wd_75
  | 1, _ => exact wd_77
  | z + 2, hz => exact absurd hz (by omega)
abbrev kItem : Nat := 3
def F_Item : u_T := fun k => match k with
  | 0 => ("GateTimes$Item", "number", "I", true)
  | 1 => ("GateTimes$Item", "at", "J", true)
  | 2 => ("GateTimes$Item", "length", "J", true)
  | 3 => ("GateTimes$Item", "order", "I", false)
  | 4 => ("GateTimes$Item", "bin", "I", false)
  | 5 => ("GateTimes$Item", "late", "I", false)
  | _ => ("GateTimes$Item", "behind", "LGateTimes$Item;", false)
def t_Item : Nat → FieldType := fun k => match k with
  | 0 => .int
  | 1 => .long
  | 2 => .long
  | 3 => .int
  | 4 => .int
  | 5 => .int
  | _ => .object "GateTimes$Item"
theorem n_Item : ∀ a, a < 7 → ∀ b, b < 7 → a ≠ b → (F_Item a).2.1 ≠ (F_Item b).2.1 := by decide +kernel
theorem t_Item_ok : ∀ k, k < 7 → parseFieldDescriptor (F_Item k).2.2.1 = some (t_Item k) := by decide +kernel
theorem i_Item : ∀ w ∈ u_ws "GateTimes$Item" F_Item 7, w ∈ aw := by
  intro w hw
  obtain ⟨k, hk, rfl⟩ := List.mem_map.mp hw
  have hk := List.mem_range.mp hk
  match k, hk with
  | 0, _ => exact wd_150
  | 1, _ => exact wd_152
  | 2, _ => exact wd_154
  | 3, _ => exact wd_156
  | 4, _ => exact wd_158
  | 5, _ => exact wd_160
  | 6, _ => exact wd_162
  | z + 7, hz => exact absurd hz (by omega)
abbrev kRow : Nat := 4
def F_Row : u_T := fun k => match k with
  | 0 => ("GateTimes$Row", "all", "[LGateTimes$Item;", true)
  | _ => ("GateTimes$Row", "size", "I", false)
def t_Row : Nat → FieldType := fun k => match k with
  | 0 => .array (.object "GateTimes$Item")
  | _ => .int
theorem n_Row : ∀ a, a < 2 → ∀ b, b < 2 → a ≠ b → (F_Row a).2.1 ≠ (F_Row b).2.1 := by decide +kernel
theorem t_Row_ok : ∀ k, k < 2 → parseFieldDescriptor (F_Row k).2.2.1 = some (t_Row k) := by decide +kernel
theorem i_Row : ∀ w ∈ u_ws "GateTimes$Row" F_Row 2, w ∈ aw := by
  intro w hw
  obtain ⟨k, hk, rfl⟩ := List.mem_map.mp hw
  have hk := List.mem_range.mp hk
  match k, hk with
  | 0, _ => exact wd_27
  | 1, _ => exact wd_29
  | z + 2, hz => exact absurd hz (by omega)
abbrev kMo : Nat := 5
def F_Mo : u_T := fun k => match k with
  | 0 => ("GateTimesModel", "thrown", "I", false)
  | 1 => ("GateTimesModel", "gates", "I", true)
  | 2 => ("GateTimesModel", "items", "I", false)
  | 3 => ("GateTimesModel", "ats", "[J", true)
  | 4 => ("GateTimesModel", "lengths", "[J", true)
  | 5 => ("GateTimesModel", "orders", "[I", true)
  | 6 => ("GateTimesModel", "nexts", "[I", true)
  | 7 => ("GateTimesModel", "bins", "[I", true)
  | 8 => ("GateTimesModel", "lates", "[I", true)
  | 9 => ("GateTimesModel", "times", "[J", true)
  | 10 => ("GateTimesModel", "open", "[Z", true)
  | 11 => ("GateTimesModel", "stuck", "[Z", true)
  | 12 => ("GateTimesModel", "used", "[Z", true)
  | 13 => ("GateTimesModel", "ends", "[J", true)
  | 14 => ("GateTimesModel", "heights", "[I", true)
  | 15 => ("GateTimesModel", "holds", "[I", true)
  | 16 => ("GateTimesModel", "counts", "[I", true)
  | 17 => ("GateTimesModel", "now", "J", false)
  | 18 => ("GateTimesModel", "outs", "I", false)
  | 19 => ("GateTimesModel", "out", "[I", true)
  | _ => ("GateTimesModel", "told", "I", false)
def t_Mo : Nat → FieldType := fun k => match k with
  | 0 => .int
  | 1 => .int
  | 2 => .int
  | 3 => .array .long
  | 4 => .array .long
  | 5 => .array .int
  | 6 => .array .int
  | 7 => .array .int
  | 8 => .array .int
  | 9 => .array .long
  | 10 => .array .boolean
  | 11 => .array .boolean
  | 12 => .array .boolean
  | 13 => .array .long
  | 14 => .array .int
  | 15 => .array .int
  | 16 => .array .int
  | 17 => .long
  | 18 => .int
  | 19 => .array .int
  | _ => .int
theorem n_Mo : ∀ a, a < 21 → ∀ b, b < 21 → a ≠ b → (F_Mo a).2.1 ≠ (F_Mo b).2.1 := by decide +kernel
theorem t_Mo_ok : ∀ k, k < 21 → parseFieldDescriptor (F_Mo k).2.2.1 = some (t_Mo k) := by decide +kernel
theorem i_Mo : ∀ w ∈ u_ws "GateTimesModel" F_Mo 21, w ∈ aw := by
  intro w hw
  obtain ⟨k, hk, rfl⟩ := List.mem_map.mp hw
  have hk := List.mem_range.mp hk
  match k, hk with
  | 0, _ => exact wd_280
  | 1, _ => exact wd_282
  | 2, _ => exact wd_284
  | 3, _ => exact wd_286
  | 4, _ => exact wd_288
  | 5, _ => exact wd_290
  | 6, _ => exact wd_292
  | 7, _ => exact wd_294
  | 8, _ => exact wd_296
  | 9, _ => exact wd_298
  | 10, _ => exact wd_300
  | 11, _ => exact wd_302
  | 12, _ => exact wd_304
  | 13, _ => exact wd_306
  | 14, _ => exact wd_308
  | 15, _ => exact wd_310
  | 16, _ => exact wd_312
  | 17, _ => exact wd_314
  | 18, _ => exact wd_316
  | 19, _ => exact wd_318
  | 20, _ => exact wd_320
  | z + 21, hz => exact absurd hz (by omega)
abbrev classes : List vw_C := [("GateTimes", F_GT, 8), ("GateTimes$Gate", F_Gate, 5), ("GateTimes$Line", F_Line, 2), ("GateTimes$Item", F_Item, 7), ("GateTimes$Row", F_Row, 2), ("GateTimesModel", F_Mo, 21)]
/-- words of the tables that are carried along by hand -/
def xZ (U : State) : Prop := va_AO "GateTimes$Item" U ∧ va_AO "GateTimes$Gate" U ∧ va_AO "GateTimes$Line" U ∧ va_Nw (.methodLinkNest "GateTimes" 11 ⟨"GateTimes$Row", "<init>", "()V"⟩ "GateTimes") U ∧ va_Nw (.methodLinkNest "GateTimes" 55 ⟨"GateTimes$Gate", "<init>", "()V"⟩ "GateTimes") U ∧ va_Nw (.methodLinkNest "GateTimes" 56 ⟨"GateTimes$Line", "<init>", "()V"⟩ "GateTimes") U
theorem xZ_same {u U : State} (h : u.vm = U.vm) (hz : xZ u) : xZ U := by
  obtain ⟨z0, z1, z2, z3, z4, z5⟩ := hz
  have ha : u.vm.Alike U.vm := by rw [← h]; exact Vm.Alike.refl u.vm
  exact ⟨va_AO.moved ha z0, va_AO.moved ha z1, va_AO.moved ha z2, va_Nw.same rfl h z3, va_Nw.same rfl h z4, va_Nw.same rfl h z5⟩
theorem xZ_warm {s U : State} (h : s.WarmedH U.vm) (hz : xZ s) : xZ U := by
  obtain ⟨z0, z1, z2, z3, z4, z5⟩ := hz
  exact ⟨va_AO.moved h.alike z0, va_AO.moved h.alike z1, va_AO.moved h.alike z2, va_Nw.warmM h z3, va_Nw.warmM h z4, va_Nw.warmM h z5⟩
theorem xZ_of {args : Array Value} {s : State} (hts : ∀ w ∈ lw_tbl, w.before args s = true) : xZ s := ⟨va_AO.of (hts _ wd_23), va_AO.of (hts _ wd_39), va_AO.of (hts _ wd_41), va_Nw.of rfl (hts _ wd_18), va_Nw.of rfl (hts _ wd_43), va_Nw.of rfl (hts _ wd_68)⟩
abbrev y_GT_init : MethodName := ⟨"GateTimes", "<init>", "(I)V"⟩
abbrev b_GT_init : ByteArray := prog_1_method_1_code
abbrev w_GT_init : List Cond := Cond.code y_GT_init b_GT_init 4 (none) :: aw
abbrev y_GT_item : MethodName := ⟨"GateTimes", "item", "(JJ)I"⟩
abbrev b_GT_item : ByteArray := prog_1_method_2_code
abbrev w_GT_item : List Cond := Cond.code y_GT_item b_GT_item 6 (some .int) :: aw
abbrev y_GT_order : MethodName := ⟨"GateTimes", "order", "(IIJ)I"⟩
abbrev b_GT_order : ByteArray := prog_1_method_3_code
abbrev w_GT_order : List Cond := Cond.code y_GT_order b_GT_order 8 (some .int) :: aw
abbrev y_GT_step : MethodName := ⟨"GateTimes", "step", "(J)I"⟩
abbrev b_GT_step : ByteArray := prog_1_method_4_code
abbrev w_GT_step : List Cond := Cond.code y_GT_step b_GT_step 4 (some .int) :: aw
abbrev y_GT_out : MethodName := ⟨"GateTimes", "out", "(II)I"⟩
abbrev b_GT_out : ByteArray := prog_1_method_5_code
abbrev w_GT_out : List Cond := Cond.code y_GT_out b_GT_out 4 (some .int) :: aw
abbrev y_GT_height : MethodName := ⟨"GateTimes", "height", "(II)I"⟩
abbrev b_GT_height : ByteArray := prog_1_method_6_code
abbrev w_GT_height : List Cond := Cond.code y_GT_height b_GT_height 5 (some .int) :: aw
abbrev y_GT_swap : MethodName := ⟨"GateTimes", "swap", "(I)I"⟩
abbrev b_GT_swap : ByteArray := prog_1_method_7_code
abbrev w_GT_swap : List Cond := Cond.code y_GT_swap b_GT_swap 4 (some .int) :: aw
abbrev y_GT_stuck : MethodName := ⟨"GateTimes", "stuck", "(IZ)I"⟩
abbrev b_GT_stuck : ByteArray := prog_1_method_8_code
abbrev w_GT_stuck : List Cond := Cond.code y_GT_stuck b_GT_stuck 4 (some .int) :: aw
abbrev y_GT_late : MethodName := ⟨"GateTimes", "late", "(I)I"⟩
abbrev b_GT_late : ByteArray := prog_1_method_9_code
abbrev w_GT_late : List Cond := Cond.code y_GT_late b_GT_late 3 (some .int) :: aw
abbrev y_GT_count : MethodName := ⟨"GateTimes", "count", "(I)I"⟩
abbrev b_GT_count : ByteArray := prog_1_method_10_code
abbrev w_GT_count : List Cond := Cond.code y_GT_count b_GT_count 2 (some .int) :: aw
abbrev y_GT_verify : MethodName := ⟨"GateTimes", "verify", "(II)I"⟩
abbrev b_GT_verify : ByteArray := prog_1_method_11_code
abbrev w_GT_verify : List Cond := Cond.code y_GT_verify b_GT_verify 4 (some .int) :: aw
abbrev y_GT_isTimeAhead : MethodName := ⟨"GateTimes", "isTimeAhead", "(J)Z"⟩
abbrev b_GT_isTimeAhead : ByteArray := prog_1_method_12_code
abbrev w_GT_isTimeAhead : List Cond := Cond.code y_GT_isTimeAhead b_GT_isTimeAhead 3 (some .boolean) :: aw
abbrev y_GT_isBehindLastItem : MethodName := ⟨"GateTimes", "isBehindLastItem", "(J)Z"⟩
abbrev b_GT_isBehindLastItem : ByteArray := prog_1_method_13_code
abbrev w_GT_isBehindLastItem : List Cond := Cond.code y_GT_isBehindLastItem b_GT_isBehindLastItem 4 (some .boolean) :: aw
abbrev y_GT_itemOf : MethodName := ⟨"GateTimes", "itemOf", "(I)LGateTimes$Item;"⟩
abbrev b_GT_itemOf : ByteArray := prog_1_method_14_code
abbrev w_GT_itemOf : List Cond := Cond.code y_GT_itemOf b_GT_itemOf 2 (some (.object "GateTimes$Item")) :: aw
abbrev y_GT_gateOf : MethodName := ⟨"GateTimes", "gateOf", "(I)LGateTimes$Gate;"⟩
abbrev b_GT_gateOf : ByteArray := prog_1_method_15_code
abbrev w_GT_gateOf : List Cond := Cond.code y_GT_gateOf b_GT_gateOf 2 (some (.object "GateTimes$Gate")) :: aw
abbrev y_GT_passTo : MethodName := ⟨"GateTimes", "passTo", "(J)V"⟩
abbrev b_GT_passTo : ByteArray := prog_1_method_16_code
abbrev w_GT_passTo : List Cond := Cond.code y_GT_passTo b_GT_passTo 5 (none) :: aw
abbrev y_GT_nextPlace : MethodName := ⟨"GateTimes", "nextPlace", "(J)I"⟩
abbrev b_GT_nextPlace : ByteArray := prog_1_method_17_code
abbrev w_GT_nextPlace : List Cond := Cond.code y_GT_nextPlace b_GT_nextPlace 8 (some .int) :: aw
abbrev y_GT_moveAt : MethodName := ⟨"GateTimes", "moveAt", "(I)V"⟩
abbrev b_GT_moveAt : ByteArray := prog_1_method_18_code
abbrev w_GT_moveAt : List Cond := Cond.code y_GT_moveAt b_GT_moveAt 4 (none) :: aw
abbrev y_GT_putInto : MethodName := ⟨"GateTimes", "putInto", "(ILGateTimes$Item;)V"⟩
abbrev b_GT_putInto : ByteArray := prog_1_method_19_code
abbrev w_GT_putInto : List Cond := Cond.code y_GT_putInto b_GT_putInto 3 (none) :: aw
abbrev y_Mo_init : MethodName := ⟨"GateTimesModel", "<init>", "(I)V"⟩
abbrev b_Mo_init : ByteArray := prog_7_method_1_code
abbrev w_Mo_init : List Cond := Cond.code y_Mo_init b_Mo_init 3 (none) :: aw
abbrev y_Mo_isIn : MethodName := ⟨"GateTimesModel", "isIn", "(JJJ)Z"⟩
abbrev b_Mo_isIn : ByteArray := prog_7_method_3_code
abbrev w_Mo_isIn : List Cond := Cond.code y_Mo_isIn b_Mo_isIn 6 (some .boolean) :: aw
abbrev y_Mo_isItem : MethodName := ⟨"GateTimesModel", "isItem", "(I)Z"⟩
abbrev b_Mo_isItem : ByteArray := prog_7_method_4_code
abbrev w_Mo_isItem : List Cond := Cond.code y_Mo_isItem b_Mo_isItem 2 (some .boolean) :: aw
abbrev y_Mo_isBin : MethodName := ⟨"GateTimesModel", "isBin", "(I)Z"⟩
abbrev b_Mo_isBin : ByteArray := prog_7_method_5_code
abbrev w_Mo_isBin : List Cond := Cond.code y_Mo_isBin b_Mo_isBin 2 (some .boolean) :: aw
abbrev y_Mo_item : MethodName := ⟨"GateTimesModel", "item", "(JJ)I"⟩
abbrev b_Mo_item : ByteArray := prog_7_method_6_code
abbrev w_Mo_item : List Cond := Cond.code y_Mo_item b_Mo_item 6 (some .int) :: aw
abbrev y_Mo_front : MethodName := ⟨"GateTimesModel", "front", "(II)J"⟩
abbrev b_Mo_front : ByteArray := prog_7_method_7_code
abbrev w_Mo_front : List Cond := Cond.code y_Mo_front b_Mo_front 3 (some .long) :: aw
abbrev y_Mo_at : MethodName := ⟨"GateTimesModel", "at", "(II)V"⟩
abbrev b_Mo_at : ByteArray := prog_7_method_8_code
abbrev w_Mo_at : List Cond := Cond.code y_Mo_at b_Mo_at 7 (none) :: aw
abbrev y_Mo_pass : MethodName := ⟨"GateTimesModel", "pass", "(J)V"⟩
abbrev b_Mo_pass : ByteArray := prog_7_method_9_code
abbrev w_Mo_pass : List Cond := Cond.code y_Mo_pass b_Mo_pass 6 (none) :: aw
abbrev y_Mo_order : MethodName := ⟨"GateTimesModel", "order", "(IIJ)I"⟩
abbrev b_Mo_order : ByteArray := prog_7_method_10_code
abbrev w_Mo_order : List Cond := Cond.code y_Mo_order b_Mo_order 7 (some .int) :: aw
abbrev y_Mo_step : MethodName := ⟨"GateTimesModel", "step", "(J)I"⟩
abbrev b_Mo_step : ByteArray := prog_7_method_11_code
abbrev w_Mo_step : List Cond := Cond.code y_Mo_step b_Mo_step 4 (some .int) :: aw
abbrev y_Mo_out : MethodName := ⟨"GateTimesModel", "out", "(II)I"⟩
abbrev b_Mo_out : ByteArray := prog_7_method_12_code
abbrev w_Mo_out : List Cond := Cond.code y_Mo_out b_Mo_out 3 (some .int) :: aw
abbrev y_Mo_height : MethodName := ⟨"GateTimesModel", "height", "(II)I"⟩
abbrev b_Mo_height : ByteArray := prog_7_method_13_code
abbrev w_Mo_height : List Cond := Cond.code y_Mo_height b_Mo_height 4 (some .int) :: aw
abbrev y_Mo_swap : MethodName := ⟨"GateTimesModel", "swap", "(I)I"⟩
abbrev b_Mo_swap : ByteArray := prog_7_method_14_code
abbrev w_Mo_swap : List Cond := Cond.code y_Mo_swap b_Mo_swap 3 (some .int) :: aw
abbrev y_Mo_stuck : MethodName := ⟨"GateTimesModel", "stuck", "(IZ)I"⟩
abbrev b_Mo_stuck : ByteArray := prog_7_method_15_code
abbrev w_Mo_stuck : List Cond := Cond.code y_Mo_stuck b_Mo_stuck 4 (some .int) :: aw
abbrev y_Mo_late : MethodName := ⟨"GateTimesModel", "late", "(I)I"⟩
abbrev b_Mo_late : ByteArray := prog_7_method_16_code
abbrev w_Mo_late : List Cond := Cond.code y_Mo_late b_Mo_late 2 (some .int) :: aw
abbrev y_Mo_count : MethodName := ⟨"GateTimesModel", "count", "(I)I"⟩
abbrev b_Mo_count : ByteArray := prog_7_method_17_code
abbrev w_Mo_count : List Cond := Cond.code y_Mo_count b_Mo_count 2 (some .int) :: aw
abbrev y_Mo_verify : MethodName := ⟨"GateTimesModel", "verify", "(II)I"⟩
abbrev b_Mo_verify : ByteArray := prog_7_method_18_code
abbrev w_Mo_verify : List Cond := Cond.code y_Mo_verify b_Mo_verify 7 (some .int) :: aw
abbrev y_Gate_init : MethodName := ⟨"GateTimes$Gate", "<init>", "()V"⟩
abbrev b_Gate_init : ByteArray := prog_2_method_1_code
abbrev w_Gate_init : List Cond := Cond.code y_Gate_init b_Gate_init 1 (none) :: aw
abbrev y_Gate_takes : MethodName := ⟨"GateTimes$Gate", "takes", "(LGateTimes$Item;I)Z"⟩
abbrev b_Gate_takes : ByteArray := prog_2_method_2_code
abbrev w_Gate_takes : List Cond := Cond.code y_Gate_takes b_Gate_takes 4 (some .boolean) :: aw
abbrev y_Item_init : MethodName := ⟨"GateTimes$Item", "<init>", "(IJJ)V"⟩
abbrev b_Item_init : ByteArray := prog_3_method_1_code
abbrev w_Item_init : List Cond := Cond.code y_Item_init b_Item_init 6 (none) :: aw
abbrev y_Item_frontAt : MethodName := ⟨"GateTimes$Item", "frontAt", "(I)J"⟩
abbrev b_Item_frontAt : ByteArray := prog_3_method_2_code
abbrev w_Item_frontAt : List Cond := Cond.code y_Item_frontAt b_Item_frontAt 2 (some .long) :: aw
abbrev y_Line_init : MethodName := ⟨"GateTimes$Line", "<init>", "()V"⟩
abbrev b_Line_init : ByteArray := prog_4_method_1_code
abbrev w_Line_init : List Cond := Cond.code y_Line_init b_Line_init 1 (none) :: aw
abbrev y_Line_join : MethodName := ⟨"GateTimes$Line", "join", "(LGateTimes$Item;)V"⟩
abbrev b_Line_join : ByteArray := prog_4_method_2_code
abbrev w_Line_join : List Cond := Cond.code y_Line_join b_Line_join 2 (none) :: aw
abbrev y_Line_leave : MethodName := ⟨"GateTimes$Line", "leave", "()LGateTimes$Item;"⟩
abbrev b_Line_leave : ByteArray := prog_4_method_3_code
abbrev w_Line_leave : List Cond := Cond.code y_Line_leave b_Line_leave 2 (some (.object "GateTimes$Item")) :: aw
abbrev y_Row_init : MethodName := ⟨"GateTimes$Row", "<init>", "()V"⟩
abbrev b_Row_init : ByteArray := prog_5_method_1_code
abbrev w_Row_init : List Cond := Cond.code y_Row_init b_Row_init 1 (none) :: aw
abbrev y_Row_isFull : MethodName := ⟨"GateTimes$Row", "isFull", "()Z"⟩
abbrev b_Row_isFull : ByteArray := prog_5_method_2_code
abbrev w_Row_isFull : List Cond := Cond.code y_Row_isFull b_Row_isFull 1 (some .boolean) :: aw
abbrev y_Row_add : MethodName := ⟨"GateTimes$Row", "add", "(LGateTimes$Item;)V"⟩
abbrev b_Row_add : ByteArray := prog_5_method_3_code
abbrev w_Row_add : List Cond := Cond.code y_Row_add b_Row_add 2 (none) :: aw
abbrev y_Row_get : MethodName := ⟨"GateTimes$Row", "get", "(I)LGateTimes$Item;"⟩
abbrev b_Row_get : ByteArray := prog_5_method_4_code
abbrev w_Row_get : List Cond := Cond.code y_Row_get b_Row_get 2 (some (.object "GateTimes$Item")) :: aw
abbrev y_Law_cell : MethodName := ⟨"GateTimesLaw", "cell", "([II)I"⟩
abbrev b_Law_cell : ByteArray := method_2_code
abbrev w_Law_cell : List Cond := Cond.code y_Law_cell b_Law_cell 2 (some .int) :: aw
