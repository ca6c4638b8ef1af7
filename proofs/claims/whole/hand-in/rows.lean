section
-- ===== PART A: goes FIRST, ahead of the names: the tables' words, and 'selects' of the private methods out of them =====
/-- a private method of a class that the tables say can be made, by its rows of tables_1 -/
def lw_okq (q : MethodName × Nat) : Prop := (q.1.cls ≠ "java/lang/invoke/MethodHandle" ∧ q.1.cls ≠ "java/lang/invoke/VarHandle") ∧ Cond.instantiable q.1.cls q.2 ∈ tables_1 ∧ Cond.privateMethod q.1 ∈ tables_1 ∧ Cond.instanceMethod q.1 ∈ tables_1
theorem lw_p0 : lw_okq (⟨"ControlFile", "startOver", "()V"⟩, 6) := ⟨⟨by decide +kernel, by decide +kernel⟩, List.mem_of_getElem? (i := 5) (by decide +kernel), List.mem_of_getElem? (i := 13) (by decide +kernel), List.mem_of_getElem? (i := 14) (by decide +kernel)⟩
theorem lw_p1 : lw_okq (⟨"ControlFile", "permission", "(IZ)I"⟩, 6) := ⟨⟨by decide +kernel, by decide +kernel⟩, List.mem_of_getElem? (i := 5) (by decide +kernel), List.mem_of_getElem? (i := 71) (by decide +kernel), List.mem_of_getElem? (i := 72) (by decide +kernel)⟩
theorem lw_p2 : lw_okq (⟨"ControlFile", "isTrapped", "(I)Z"⟩, 6) := ⟨⟨by decide +kernel, by decide +kernel⟩, List.mem_of_getElem? (i := 5) (by decide +kernel), List.mem_of_getElem? (i := 81) (by decide +kernel), List.mem_of_getElem? (i := 82) (by decide +kernel)⟩
theorem lw_p3 : lw_okq (⟨"ControlFile", "told", "(I)I"⟩, 6) := ⟨⟨by decide +kernel, by decide +kernel⟩, List.mem_of_getElem? (i := 5) (by decide +kernel), List.mem_of_getElem? (i := 86) (by decide +kernel), List.mem_of_getElem? (i := 87) (by decide +kernel)⟩
theorem lw_p4 : lw_okq (⟨"ControlFile", "pendingForS", "()I"⟩, 6) := ⟨⟨by decide +kernel, by decide +kernel⟩, List.mem_of_getElem? (i := 5) (by decide +kernel), List.mem_of_getElem? (i := 90) (by decide +kernel), List.mem_of_getElem? (i := 91) (by decide +kernel)⟩
theorem lw_p5 : lw_okq (⟨"ControlFile", "put", "(II)V"⟩, 6) := ⟨⟨by decide +kernel, by decide +kernel⟩, List.mem_of_getElem? (i := 5) (by decide +kernel), List.mem_of_getElem? (i := 97) (by decide +kernel), List.mem_of_getElem? (i := 98) (by decide +kernel)⟩
theorem lw_p6 : lw_okq (⟨"ControlFile", "putBits", "(III)V"⟩, 6) := ⟨⟨by decide +kernel, by decide +kernel⟩, List.mem_of_getElem? (i := 5) (by decide +kernel), List.mem_of_getElem? (i := 101) (by decide +kernel), List.mem_of_getElem? (i := 102) (by decide +kernel)⟩
theorem lw_p7 : lw_okq (⟨"ControlFile", "dueForS", "()I"⟩, 6) := ⟨⟨by decide +kernel, by decide +kernel⟩, List.mem_of_getElem? (i := 5) (by decide +kernel), List.mem_of_getElem? (i := 123) (by decide +kernel), List.mem_of_getElem? (i := 124) (by decide +kernel)⟩
theorem lw_p8 : lw_okq (⟨"ControlFile", "dueForVs", "()I"⟩, 6) := ⟨⟨by decide +kernel, by decide +kernel⟩, List.mem_of_getElem? (i := 5) (by decide +kernel), List.mem_of_getElem? (i := 132) (by decide +kernel), List.mem_of_getElem? (i := 133) (by decide +kernel)⟩
theorem lw_p9 : lw_okq (⟨"ControlFileModel", "refusal", "(IZ)I"⟩, 6) := ⟨⟨by decide +kernel, by decide +kernel⟩, List.mem_of_getElem? (i := 138) (by decide +kernel), List.mem_of_getElem? (i := 199) (by decide +kernel), List.mem_of_getElem? (i := 200) (by decide +kernel)⟩
theorem lw_p10 : lw_okq (⟨"ControlFileModel", "has", "(II)Z"⟩, 6) := ⟨⟨by decide +kernel, by decide +kernel⟩, List.mem_of_getElem? (i := 138) (by decide +kernel), List.mem_of_getElem? (i := 203) (by decide +kernel), List.mem_of_getElem? (i := 204) (by decide +kernel)⟩
theorem lw_p11 : lw_okq (⟨"ControlFileModel", "tells", "(I)I"⟩, 6) := ⟨⟨by decide +kernel, by decide +kernel⟩, List.mem_of_getElem? (i := 138) (by decide +kernel), List.mem_of_getElem? (i := 207) (by decide +kernel), List.mem_of_getElem? (i := 208) (by decide +kernel)⟩
theorem lw_p12 : lw_okq (⟨"ControlFileModel", "write", "(II)V"⟩, 6) := ⟨⟨by decide +kernel, by decide +kernel⟩, List.mem_of_getElem? (i := 138) (by decide +kernel), List.mem_of_getElem? (i := 211) (by decide +kernel), List.mem_of_getElem? (i := 212) (by decide +kernel)⟩
theorem lw_p13 : lw_okq (⟨"ControlFileModel", "put", "(III)V"⟩, 6) := ⟨⟨by decide +kernel, by decide +kernel⟩, List.mem_of_getElem? (i := 138) (by decide +kernel), List.mem_of_getElem? (i := 215) (by decide +kernel), List.mem_of_getElem? (i := 216) (by decide +kernel)⟩
def lw_privs_1 : List (MethodName × Nat) := [(⟨"ControlFile", "startOver", "()V"⟩, 6), (⟨"ControlFile", "permission", "(IZ)I"⟩, 6), (⟨"ControlFile", "isTrapped", "(I)Z"⟩, 6), (⟨"ControlFile", "told", "(I)I"⟩, 6), (⟨"ControlFile", "pendingForS", "()I"⟩, 6), (⟨"ControlFile", "put", "(II)V"⟩, 6), (⟨"ControlFile", "putBits", "(III)V"⟩, 6), (⟨"ControlFile", "dueForS", "()I"⟩, 6), (⟨"ControlFile", "dueForVs", "()I"⟩, 6), (⟨"ControlFileModel", "refusal", "(IZ)I"⟩, 6), (⟨"ControlFileModel", "has", "(II)Z"⟩, 6), (⟨"ControlFileModel", "tells", "(I)I"⟩, 6), (⟨"ControlFileModel", "write", "(II)V"⟩, 6), (⟨"ControlFileModel", "put", "(III)V"⟩, 6)]
theorem lw_r1 : ∀ q ∈ lw_privs_1, lw_okq q := List.forall_mem_cons.mpr ⟨lw_p0, List.forall_mem_cons.mpr ⟨lw_p1, List.forall_mem_cons.mpr ⟨lw_p2, List.forall_mem_cons.mpr ⟨lw_p3, List.forall_mem_cons.mpr ⟨lw_p4, List.forall_mem_cons.mpr ⟨lw_p5, List.forall_mem_cons.mpr ⟨lw_p6, List.forall_mem_cons.mpr ⟨lw_p7, List.forall_mem_cons.mpr ⟨lw_p8, List.forall_mem_cons.mpr ⟨lw_p9, List.forall_mem_cons.mpr ⟨lw_p10, List.forall_mem_cons.mpr ⟨lw_p11, List.forall_mem_cons.mpr ⟨lw_p12, List.forall_mem_cons.mpr ⟨lw_p13, fun _ h => absurd h List.not_mem_nil⟩⟩⟩⟩⟩⟩⟩⟩⟩⟩⟩⟩⟩⟩
def lw_privs : List (MethodName × Nat) := lw_privs_1
def lw_tbl : List Cond := k2_sels lw_privs ++ tables_1
theorem lw_privs_ok : ∀ q ∈ lw_privs, lw_okq q := lw_r1
/-! ===== BEGIN words of one list among another's, by their places ===== -/
theorem goodIn_r {big : List Cond} (ws : List Cond) (ps : List Nat) (hp : ws = ps.filterMap (fun i => big[i]?)) (h : ws.all goodWord = true) : GoodIn big ws := by
  intro w hw
  have h1 := List.all_eq_true.mp h w hw
  rw [hp] at hw
  obtain ⟨i, -, hi⟩ := List.mem_filterMap.mp hw
  have hm : w ∈ big := by first | exact List.mem_of_getElem? hi | exact List.getElem?_mem hi
  exact ⟨hm, good_of_word h1⟩
theorem goodIn_app {big a b : List Cond} (ha : GoodIn big a) (hb : GoodIn big b) : GoodIn big (a ++ b) := fun w h => (List.mem_append.mp h).elim (ha w) (hb w)
theorem goodIn_ca {big a b : List Cond} {c : Cond} (ha : GoodIn big (c :: a)) (hb : GoodIn big b) : GoodIn big (c :: (a ++ b)) := fun w h => (List.mem_cons.mp h).elim (fun e => ha w (List.mem_cons.mpr (Or.inl e))) (fun h => (List.mem_append.mp h).elim (fun h => ha w (List.mem_cons.mpr (Or.inr h))) (hb w))
theorem goodIn_sub {big ws : List Cond} (hm : ∀ w ∈ ws, w ∈ big) (h : ws.all goodWord = true) : GoodIn big ws := fun w hw => ⟨hm w hw, good_of_word (List.all_eq_true.mp h w hw)⟩
/-! ===== END ===== -/

/-! ===== BEGIN printed: names, fields, word lists, decode rows ===== -/
def RX0 : String := "ControlFile"
def TX0 : u_T := fun k => match k with
  | 0 => ("ControlFile", "kept", "[I", true)
  | 1 => ("ControlFile", "modeNow", "I", false)
  | 2 => ("ControlFile", "timeNow", "J", false)
  | 3 => ("ControlFile", "alarmAt", "J", false)
  | 4 => ("ControlFile", "lineOn", "Z", false)
  | _ => ("ControlFile", "oldValue", "I", false)
def tyX0 : Nat → FieldType := fun k => match k with
  | 0 => .array .int
  | 1 => .int
  | 2 => .long
  | 3 => .long
  | 4 => .boolean
  | _ => .int
abbrev wsX00 : List Cond := u_ws RX0 TX0 6
theorem nmX0 : ∀ a, a < 6 → ∀ b, b < 6 → a ≠ b → (TX0 a).2.1 ≠ (TX0 b).2.1 := by decide +kernel
theorem tyX0_ok : ∀ k, k < 6 → parseFieldDescriptor (TX0 k).2.2.1 = some (tyX0 k) := by decide +kernel
abbrev cX0_init : ByteArray := prog_1_method_1_code
def yX0_init : MethodName := ⟨RX0, "<init>", "()V"⟩
abbrev cX0_begin : ByteArray := prog_1_method_2_code
def yX0_begin : MethodName := ⟨RX0, "begin", "()V"⟩
abbrev cX0_mode : ByteArray := prog_1_method_3_code
def yX0_mode : MethodName := ⟨RX0, "mode", "(I)I"⟩
abbrev cX0_time : ByteArray := prog_1_method_4_code
def yX0_time : MethodName := ⟨RX0, "time", "(J)J"⟩
abbrev cX0_alarm : ByteArray := prog_1_method_5_code
def yX0_alarm : MethodName := ⟨RX0, "alarm", "(J)J"⟩
abbrev cX0_line : ByteArray := prog_1_method_6_code
def yX0_line : MethodName := ⟨RX0, "line", "(Z)Z"⟩
abbrev cX0_access : ByteArray := prog_1_method_7_code
def yX0_access : MethodName := ⟨RX0, "access", "(III)I"⟩
abbrev cX0_old : ByteArray := prog_1_method_8_code
def yX0_old : MethodName := ⟨RX0, "old", "()I"⟩
abbrev cX0_control : ByteArray := prog_1_method_9_code
def yX0_control : MethodName := ⟨RX0, "control", "(I)I"⟩
abbrev cX0_used : ByteArray := prog_1_method_10_code
def yX0_used : MethodName := ⟨RX0, "used", "()I"⟩
abbrev cX0_due : ByteArray := prog_1_method_11_code
def yX0_due : MethodName := ⟨RX0, "due", "()I"⟩
abbrev cX0_startOver : ByteArray := prog_1_method_12_code
def yX0_startOver : MethodName := ⟨RX0, "startOver", "()V"⟩
abbrev cX0_slotOf : ByteArray := prog_1_method_13_code
def yX0_slotOf : MethodName := ⟨RX0, "slotOf", "(I)I"⟩
abbrev cX0_isOfS : ByteArray := prog_1_method_14_code
def yX0_isOfS : MethodName := ⟨RX0, "isOfS", "(I)Z"⟩
abbrev cX0_isOfTime : ByteArray := prog_1_method_15_code
def yX0_isOfTime : MethodName := ⟨RX0, "isOfTime", "(I)Z"⟩
abbrev cX0_permission : ByteArray := prog_1_method_16_code
def yX0_permission : MethodName := ⟨RX0, "permission", "(IZ)I"⟩
abbrev cX0_isTrapped : ByteArray := prog_1_method_17_code
def yX0_isTrapped : MethodName := ⟨RX0, "isTrapped", "(I)Z"⟩
abbrev cX0_written : ByteArray := prog_1_method_18_code
def yX0_written : MethodName := ⟨RX0, "written", "(III)I"⟩
abbrev cX0_told : ByteArray := prog_1_method_19_code
def yX0_told : MethodName := ⟨RX0, "told", "(I)I"⟩
abbrev cX0_pendingForS : ByteArray := prog_1_method_20_code
def yX0_pendingForS : MethodName := ⟨RX0, "pendingForS", "()I"⟩
abbrev cX0_put : ByteArray := prog_1_method_21_code
def yX0_put : MethodName := ⟨RX0, "put", "(II)V"⟩
abbrev cX0_putBits : ByteArray := prog_1_method_22_code
def yX0_putBits : MethodName := ⟨RX0, "putBits", "(III)V"⟩
abbrev cX0_dueForS : ByteArray := prog_1_method_23_code
def yX0_dueForS : MethodName := ⟨RX0, "dueForS", "()I"⟩
abbrev cX0_dueForVs : ByteArray := prog_1_method_24_code
def yX0_dueForVs : MethodName := ⟨RX0, "dueForVs", "()I"⟩
abbrev cX0_firstOf : ByteArray := prog_1_method_25_code
def yX0_firstOf : MethodName := ⟨RX0, "firstOf", "([II)I"⟩
def RX1 : String := "ControlFileModel"
def TX1 : u_T := fun k => match k with
  | 0 => ("ControlFileModel", "kept", "[I", true)
  | 1 => ("ControlFileModel", "mode", "I", false)
  | 2 => ("ControlFileModel", "time", "J", false)
  | 3 => ("ControlFileModel", "alarm", "J", false)
  | 4 => ("ControlFileModel", "line", "Z", false)
  | _ => ("ControlFileModel", "old", "I", false)
def tyX1 : Nat → FieldType := fun k => match k with
  | 0 => .array .int
  | 1 => .int
  | 2 => .long
  | 3 => .long
  | 4 => .boolean
  | _ => .int
abbrev wsX10 : List Cond := u_ws RX1 TX1 6
theorem nmX1 : ∀ a, a < 6 → ∀ b, b < 6 → a ≠ b → (TX1 a).2.1 ≠ (TX1 b).2.1 := by decide +kernel
theorem tyX1_ok : ∀ k, k < 6 → parseFieldDescriptor (TX1 k).2.2.1 = some (tyX1 k) := by decide +kernel
abbrev cX1_init : ByteArray := prog_3_method_1_code
def yX1_init : MethodName := ⟨RX1, "<init>", "()V"⟩
abbrev cX1_begin : ByteArray := prog_3_method_3_code
def yX1_begin : MethodName := ⟨RX1, "begin", "()V"⟩
abbrev cX1_mode : ByteArray := prog_3_method_4_code
def yX1_mode : MethodName := ⟨RX1, "mode", "(I)I"⟩
abbrev cX1_time : ByteArray := prog_3_method_5_code
def yX1_time : MethodName := ⟨RX1, "time", "(J)J"⟩
abbrev cX1_alarm : ByteArray := prog_3_method_6_code
def yX1_alarm : MethodName := ⟨RX1, "alarm", "(J)J"⟩
abbrev cX1_line : ByteArray := prog_3_method_7_code
def yX1_line : MethodName := ⟨RX1, "line", "(Z)Z"⟩
abbrev cX1_kindOf : ByteArray := prog_3_method_8_code
def yX1_kindOf : MethodName := ⟨RX1, "kindOf", "(I)I"⟩
abbrev cX1_hyperOf : ByteArray := prog_3_method_9_code
def yX1_hyperOf : MethodName := ⟨RX1, "hyperOf", "(I)I"⟩
abbrev cX1_placeOf : ByteArray := prog_3_method_10_code
def yX1_placeOf : MethodName := ⟨RX1, "placeOf", "(I)I"⟩
abbrev cX1_has : ByteArray := prog_3_method_11_code
def yX1_has : MethodName := ⟨RX1, "has", "(II)Z"⟩
abbrev cX1_tells : ByteArray := prog_3_method_12_code
def yX1_tells : MethodName := ⟨RX1, "tells", "(I)I"⟩
abbrev cX1_put : ByteArray := prog_3_method_13_code
def yX1_put : MethodName := ⟨RX1, "put", "(III)V"⟩
abbrev cX1_maskOf : ByteArray := prog_3_method_14_code
def yX1_maskOf : MethodName := ⟨RX1, "maskOf", "(I)I"⟩
abbrev cX1_write : ByteArray := prog_3_method_15_code
def yX1_write : MethodName := ⟨RX1, "write", "(II)V"⟩
abbrev cX1_refusal : ByteArray := prog_3_method_16_code
def yX1_refusal : MethodName := ⟨RX1, "refusal", "(IZ)I"⟩
abbrev cX1_access : ByteArray := prog_3_method_17_code
def yX1_access : MethodName := ⟨RX1, "access", "(III)I"⟩
abbrev cX1_old : ByteArray := prog_3_method_18_code
def yX1_old : MethodName := ⟨RX1, "old", "()I"⟩
abbrev cX1_control : ByteArray := prog_3_method_19_code
def yX1_control : MethodName := ⟨RX1, "control", "(I)I"⟩
abbrev cX1_used : ByteArray := prog_3_method_20_code
def yX1_used : MethodName := ⟨RX1, "used", "()I"⟩
def RJ7 : String := "java/util/Arrays"
def TJ7 : u_T := fun k => match k with
  | _ => ("", "", "", false)
def tyJ7 : Nat → FieldType := fun k => match k with
  | _ => .int
abbrev wsJ70 : List Cond := u_ws RJ7 TJ7 0
theorem nmJ7 : ∀ a, a < 0 → ∀ b, b < 0 → a ≠ b → (TJ7 a).2.1 ≠ (TJ7 b).2.1 := by decide +kernel
theorem tyJ7_ok : ∀ k, k < 0 → parseFieldDescriptor (TJ7 k).2.2.1 = some (tyJ7 k) := by decide +kernel
abbrev cJ7_fill_53178 : ByteArray := prog_4_method_103_code
def yJ7_fill_53178 : MethodName := ⟨RJ7, "fill", "([II)V"⟩
def RL : String := "ControlFileLaw"
abbrev cL_law : ByteArray := code
def yL_law : MethodName := ⟨RL, "law", "([I)Z"⟩
def wsJ7_fill_53178 : List Cond := .code yJ7_fill_53178 cJ7_fill_53178 4 none :: ([])
def wsX0_startOver : List Cond := .code yX0_startOver cX0_startOver 1 none :: ([.fieldLink RX0 9 "ControlFile" "kept" "[I", .fieldLink RX0 16 "ControlFile" "modeNow" "I", .fieldLink RX0 22 "ControlFile" "timeNow" "J", .constantLong RX0 29 (9223372036854775807), .fieldLink RX0 26 "ControlFile" "alarmAt" "J", .fieldLink RX0 31 "ControlFile" "lineOn" "Z", .fieldLink RX0 58 "ControlFile" "oldValue" "I", .methodLink RX0 68 yJ7_fill_53178, .static yJ7_fill_53178, .initialized RJ7, .code yJ7_fill_53178 cJ7_fill_53178 4 none] ++ wsX00)
def wsX0_init : List Cond := .code yX0_init cX0_init 1 none :: ([.methodLink RX0 3 objectInit, .instanceMethod objectInit, .code objectInit ⟨#[0xb1]⟩ 1 none, .arrayClass .int, .fieldLink RX0 9 "ControlFile" "kept" "[I", .methodLink RX0 13 yX0_startOver, .instanceMethod yX0_startOver, .selects RX0 yX0_startOver yX0_startOver, .initialized RX0, .code yX0_startOver cX0_startOver 1 none, .fieldLink RX0 16 "ControlFile" "modeNow" "I", .fieldLink RX0 22 "ControlFile" "timeNow" "J", .constantLong RX0 29 (9223372036854775807), .fieldLink RX0 26 "ControlFile" "alarmAt" "J", .fieldLink RX0 31 "ControlFile" "lineOn" "Z", .fieldLink RX0 58 "ControlFile" "oldValue" "I", .methodLink RX0 68 yJ7_fill_53178, .static yJ7_fill_53178, .initialized RJ7, .code yJ7_fill_53178 cJ7_fill_53178 4 none] ++ wsX00)
def wsX0_begin : List Cond := .code yX0_begin cX0_begin 1 none :: ([.methodLink RX0 13 yX0_startOver, .instanceMethod yX0_startOver, .selects RX0 yX0_startOver yX0_startOver, .initialized RX0, .code yX0_startOver cX0_startOver 1 none, .fieldLink RX0 9 "ControlFile" "kept" "[I", .fieldLink RX0 16 "ControlFile" "modeNow" "I", .fieldLink RX0 22 "ControlFile" "timeNow" "J", .constantLong RX0 29 (9223372036854775807), .fieldLink RX0 26 "ControlFile" "alarmAt" "J", .fieldLink RX0 31 "ControlFile" "lineOn" "Z", .fieldLink RX0 58 "ControlFile" "oldValue" "I", .methodLink RX0 68 yJ7_fill_53178, .static yJ7_fill_53178, .initialized RJ7, .code yJ7_fill_53178 cJ7_fill_53178 4 none] ++ wsX00)
def wsX0_mode : List Cond := .code yX0_mode cX0_mode 3 (some .int) :: ([.fieldLink RX0 16 "ControlFile" "modeNow" "I"] ++ wsX00)
def wsX0_time : List Cond := .code yX0_time cX0_time 5 (some .long) :: ([.constantLong RX0 20 (-1), .fieldLink RX0 22 "ControlFile" "timeNow" "J"] ++ wsX00)
def wsX0_alarm : List Cond := .code yX0_alarm cX0_alarm 5 (some .long) :: ([.fieldLink RX0 26 "ControlFile" "alarmAt" "J", .constantLong RX0 29 (9223372036854775807)] ++ wsX00)
def wsX0_line : List Cond := .code yX0_line cX0_line 3 (some .boolean) :: ([.fieldLink RX0 31 "ControlFile" "lineOn" "Z"] ++ wsX00)
def wsX0_slotOf : List Cond := .code yX0_slotOf cX0_slotOf 2 (some .int) :: ([.fieldLink RX0 74 "ControlFile" "NUMBERS" "[I"])
def wsX0_isOfTime : List Cond := .code yX0_isOfTime cX0_isOfTime 1 (some .boolean) :: ([])
def wsX0_isOfS : List Cond := .code yX0_isOfS cX0_isOfS 1 (some .boolean) :: ([])
def wsX0_isTrapped : List Cond := .code yX0_isTrapped cX0_isTrapped 2 (some .boolean) :: ([.fieldLink RX0 9 "ControlFile" "kept" "[I", .constant RX0 83 (1048576)] ++ wsX00)
def wsX0_permission : List Cond := .code yX0_permission cX0_permission 3 (some .int) :: ([.fieldLink RX0 16 "ControlFile" "modeNow" "I", .methodLink RX0 77 yX0_isOfTime, .static yX0_isOfTime, .initialized RX0, .code yX0_isOfTime cX0_isOfTime 1 (some .boolean), .methodLink RX0 43 yX0_isOfS, .static yX0_isOfS, .code yX0_isOfS cX0_isOfS 1 (some .boolean), .methodLink RX0 80 yX0_isTrapped, .instanceMethod yX0_isTrapped, .selects RX0 yX0_isTrapped yX0_isTrapped, .code yX0_isTrapped cX0_isTrapped 2 (some .boolean), .fieldLink RX0 9 "ControlFile" "kept" "[I", .constant RX0 83 (1048576)] ++ wsX00)
def wsX0_pendingForS : List Cond := .code yX0_pendingForS cX0_pendingForS 2 (some .int) :: ([.fieldLink RX0 9 "ControlFile" "kept" "[I", .fieldLink RX0 22 "ControlFile" "timeNow" "J", .fieldLink RX0 26 "ControlFile" "alarmAt" "J", .fieldLink RX0 31 "ControlFile" "lineOn" "Z"] ++ wsX00)
def wsX0_told : List Cond := .code yX0_told cX0_told 2 (some .int) :: ([.fieldLink RX0 9 "ControlFile" "kept" "[I", .fieldLink RX0 22 "ControlFile" "timeNow" "J", .methodLink RX0 84 yX0_pendingForS, .instanceMethod yX0_pendingForS, .selects RX0 yX0_pendingForS yX0_pendingForS, .initialized RX0, .code yX0_pendingForS cX0_pendingForS 2 (some .int), .fieldLink RX0 26 "ControlFile" "alarmAt" "J", .fieldLink RX0 31 "ControlFile" "lineOn" "Z"] ++ wsX00)
def wsX0_written : List Cond := .code yX0_written cX0_written 3 (some .int) :: ([])
def wsX0_putBits : List Cond := .code yX0_putBits cX0_putBits 4 none :: ([.fieldLink RX0 9 "ControlFile" "kept" "[I"] ++ wsX00)
def wsX0_put : List Cond := .code yX0_put cX0_put 3 none :: ([.fieldLink RX0 9 "ControlFile" "kept" "[I", .fieldLink RX0 91 "ControlFile" "KEEPS" "[I", .methodLink RX0 87 yX0_putBits, .instanceMethod yX0_putBits, .selects RX0 yX0_putBits yX0_putBits, .initialized RX0, .code yX0_putBits cX0_putBits 4 none] ++ wsX00)
def wsX0_access_r1 : List Cond := [Cond.fieldLink RX0 16 "ControlFile" "modeNow" "I", Cond.fieldLink RX0 58 "ControlFile" "oldValue" "I", Cond.methodLink RX0 35 yX0_slotOf, Cond.static yX0_slotOf, Cond.initialized RX0, Cond.code yX0_slotOf cX0_slotOf 2 (some .int), Cond.fieldLink RX0 74 "ControlFile" "NUMBERS" "[I", Cond.methodLink RX0 39 yX0_permission, Cond.instanceMethod yX0_permission, Cond.selects RX0 yX0_permission yX0_permission, Cond.code yX0_permission cX0_permission 3 (some .int), Cond.methodLink RX0 77 yX0_isOfTime, Cond.static yX0_isOfTime, Cond.code yX0_isOfTime cX0_isOfTime 1 (some .boolean), Cond.methodLink RX0 43 yX0_isOfS, Cond.static yX0_isOfS, Cond.code yX0_isOfS cX0_isOfS 1 (some .boolean), Cond.methodLink RX0 80 yX0_isTrapped, Cond.instanceMethod yX0_isTrapped, Cond.selects RX0 yX0_isTrapped yX0_isTrapped, Cond.code yX0_isTrapped cX0_isTrapped 2 (some .boolean), Cond.fieldLink RX0 9 "ControlFile" "kept" "[I", Cond.constant RX0 83 (1048576), Cond.methodLink RX0 47 yX0_told]
def wsX0_access_r2 : List Cond := [Cond.instanceMethod yX0_told, Cond.selects RX0 yX0_told yX0_told, Cond.code yX0_told cX0_told 2 (some .int), Cond.fieldLink RX0 22 "ControlFile" "timeNow" "J", Cond.methodLink RX0 84 yX0_pendingForS, Cond.instanceMethod yX0_pendingForS, Cond.selects RX0 yX0_pendingForS yX0_pendingForS, Cond.code yX0_pendingForS cX0_pendingForS 2 (some .int), Cond.fieldLink RX0 26 "ControlFile" "alarmAt" "J", Cond.fieldLink RX0 31 "ControlFile" "lineOn" "Z", Cond.methodLink RX0 50 yX0_written, Cond.static yX0_written, Cond.code yX0_written cX0_written 3 (some .int), Cond.methodLink RX0 54 yX0_put, Cond.instanceMethod yX0_put, Cond.selects RX0 yX0_put yX0_put, Cond.code yX0_put cX0_put 3 none, Cond.fieldLink RX0 91 "ControlFile" "KEEPS" "[I", Cond.methodLink RX0 87 yX0_putBits, Cond.instanceMethod yX0_putBits, Cond.selects RX0 yX0_putBits yX0_putBits, Cond.code yX0_putBits cX0_putBits 4 none]
def wsX0_access : List Cond := .code yX0_access cX0_access 8 (some .int) :: ((wsX0_access_r1 ++ wsX0_access_r2) ++ wsX00)
def wsX0_old : List Cond := .code yX0_old cX0_old 1 (some .int) :: ([.fieldLink RX0 58 "ControlFile" "oldValue" "I"] ++ wsX00)
def wsX0_control : List Cond := .code yX0_control cX0_control 2 (some .int) :: ([.methodLink RX0 35 yX0_slotOf, .static yX0_slotOf, .initialized RX0, .code yX0_slotOf cX0_slotOf 2 (some .int), .fieldLink RX0 74 "ControlFile" "NUMBERS" "[I", .methodLink RX0 47 yX0_told, .instanceMethod yX0_told, .selects RX0 yX0_told yX0_told, .code yX0_told cX0_told 2 (some .int), .fieldLink RX0 9 "ControlFile" "kept" "[I", .fieldLink RX0 22 "ControlFile" "timeNow" "J", .methodLink RX0 84 yX0_pendingForS, .instanceMethod yX0_pendingForS, .selects RX0 yX0_pendingForS yX0_pendingForS, .code yX0_pendingForS cX0_pendingForS 2 (some .int), .fieldLink RX0 26 "ControlFile" "alarmAt" "J", .fieldLink RX0 31 "ControlFile" "lineOn" "Z"] ++ wsX00)
def wsX0_used : List Cond := .code yX0_used cX0_used 3 (some .int) :: ([.methodLink RX0 47 yX0_told, .instanceMethod yX0_told, .selects RX0 yX0_told yX0_told, .initialized RX0, .code yX0_told cX0_told 2 (some .int), .fieldLink RX0 9 "ControlFile" "kept" "[I", .fieldLink RX0 22 "ControlFile" "timeNow" "J", .methodLink RX0 84 yX0_pendingForS, .instanceMethod yX0_pendingForS, .selects RX0 yX0_pendingForS yX0_pendingForS, .code yX0_pendingForS cX0_pendingForS 2 (some .int), .fieldLink RX0 26 "ControlFile" "alarmAt" "J", .fieldLink RX0 31 "ControlFile" "lineOn" "Z"] ++ wsX00)
def wsX0_firstOf : List Cond := .code yX0_firstOf cX0_firstOf 3 (some .int) :: ([])
def wsX0_dueForS : List Cond := .code yX0_dueForS cX0_dueForS 3 (some .int) :: ([.fieldLink RX0 16 "ControlFile" "modeNow" "I", .fieldLink RX0 9 "ControlFile" "kept" "[I", .fieldLink RX0 94 "ControlFile" "S_ORDER" "[I", .methodLink RX0 84 yX0_pendingForS, .instanceMethod yX0_pendingForS, .selects RX0 yX0_pendingForS yX0_pendingForS, .initialized RX0, .code yX0_pendingForS cX0_pendingForS 2 (some .int), .fieldLink RX0 22 "ControlFile" "timeNow" "J", .fieldLink RX0 26 "ControlFile" "alarmAt" "J", .fieldLink RX0 31 "ControlFile" "lineOn" "Z", .methodLink RX0 97 yX0_firstOf, .static yX0_firstOf, .code yX0_firstOf cX0_firstOf 3 (some .int)] ++ wsX00)
def wsX0_dueForVs : List Cond := .code yX0_dueForVs cX0_dueForVs 3 (some .int) :: ([.fieldLink RX0 16 "ControlFile" "modeNow" "I", .fieldLink RX0 9 "ControlFile" "kept" "[I", .fieldLink RX0 101 "ControlFile" "VS_ORDER" "[I", .methodLink RX0 97 yX0_firstOf, .static yX0_firstOf, .initialized RX0, .code yX0_firstOf cX0_firstOf 3 (some .int)] ++ wsX00)
def wsX0_due : List Cond := .code yX0_due cX0_due 2 (some .int) :: ([.methodLink RX0 61 yX0_dueForS, .instanceMethod yX0_dueForS, .selects RX0 yX0_dueForS yX0_dueForS, .initialized RX0, .code yX0_dueForS cX0_dueForS 3 (some .int), .fieldLink RX0 16 "ControlFile" "modeNow" "I", .fieldLink RX0 9 "ControlFile" "kept" "[I", .fieldLink RX0 94 "ControlFile" "S_ORDER" "[I", .methodLink RX0 84 yX0_pendingForS, .instanceMethod yX0_pendingForS, .selects RX0 yX0_pendingForS yX0_pendingForS, .code yX0_pendingForS cX0_pendingForS 2 (some .int), .fieldLink RX0 22 "ControlFile" "timeNow" "J", .fieldLink RX0 26 "ControlFile" "alarmAt" "J", .fieldLink RX0 31 "ControlFile" "lineOn" "Z", .methodLink RX0 97 yX0_firstOf, .static yX0_firstOf, .code yX0_firstOf cX0_firstOf 3 (some .int), .methodLink RX0 65 yX0_dueForVs, .instanceMethod yX0_dueForVs, .selects RX0 yX0_dueForVs yX0_dueForVs, .code yX0_dueForVs cX0_dueForVs 3 (some .int), .fieldLink RX0 101 "ControlFile" "VS_ORDER" "[I"] ++ wsX00)
def wsX1_begin : List Cond := .code yX1_begin cX1_begin 2 none :: ([.fieldLink RX1 7 "ControlFileModel" "kept" "[I", .fieldLink RX1 16 "ControlFileModel" "mode" "I", .fieldLink RX1 20 "ControlFileModel" "time" "J", .constantLong RX1 24 (9223372036854775807), .fieldLink RX1 26 "ControlFileModel" "alarm" "J", .fieldLink RX1 29 "ControlFileModel" "line" "Z", .fieldLink RX1 33 "ControlFileModel" "old" "I"] ++ wsX10)
def wsX1_init : List Cond := .code yX1_init cX1_init 1 none :: ([.methodLink RX1 1 objectInit, .instanceMethod objectInit, .code objectInit ⟨#[0xb1]⟩ 1 none, .arrayClass .int, .fieldLink RX1 7 "ControlFileModel" "kept" "[I", .methodLink RX1 13 yX1_begin, .instanceMethod yX1_begin, .selects RX1 yX1_begin yX1_begin, .initialized RX1, .code yX1_begin cX1_begin 2 none, .fieldLink RX1 16 "ControlFileModel" "mode" "I", .fieldLink RX1 20 "ControlFileModel" "time" "J", .constantLong RX1 24 (9223372036854775807), .fieldLink RX1 26 "ControlFileModel" "alarm" "J", .fieldLink RX1 29 "ControlFileModel" "line" "Z", .fieldLink RX1 33 "ControlFileModel" "old" "I"] ++ wsX10)
def wsX1_mode : List Cond := .code yX1_mode cX1_mode 3 (some .int) :: ([.fieldLink RX1 16 "ControlFileModel" "mode" "I"] ++ wsX10)
def wsX1_time : List Cond := .code yX1_time cX1_time 5 (some .long) :: ([.constantLong RX1 36 (-1), .fieldLink RX1 20 "ControlFileModel" "time" "J"] ++ wsX10)
def wsX1_alarm : List Cond := .code yX1_alarm cX1_alarm 5 (some .long) :: ([.fieldLink RX1 26 "ControlFileModel" "alarm" "J", .constantLong RX1 24 (9223372036854775807)] ++ wsX10)
def wsX1_line : List Cond := .code yX1_line cX1_line 3 (some .boolean) :: ([.fieldLink RX1 29 "ControlFileModel" "line" "Z"] ++ wsX10)
def wsX1_kindOf : List Cond := .code yX1_kindOf cX1_kindOf 1 (some .int) :: ([])
def wsX1_hyperOf : List Cond := .code yX1_hyperOf cX1_hyperOf 1 (some .int) :: ([])
def wsX1_placeOf : List Cond := .code yX1_placeOf cX1_placeOf 3 (some .int) :: ([.methodLink RX1 38 yX1_hyperOf, .static yX1_hyperOf, .initialized RX1, .code yX1_hyperOf cX1_hyperOf 1 (some .int), .methodLink RX1 42 yX1_kindOf, .static yX1_kindOf, .code yX1_kindOf cX1_kindOf 1 (some .int)])
def wsX1_has : List Cond := .code yX1_has cX1_has 3 (some .boolean) :: ([.fieldLink RX1 7 "ControlFileModel" "kept" "[I"] ++ wsX10)
def wsX1_tells : List Cond := .code yX1_tells cX1_tells 2 (some .int) :: ([.fieldLink RX1 7 "ControlFileModel" "kept" "[I", .fieldLink RX1 20 "ControlFileModel" "time" "J", .fieldLink RX1 26 "ControlFileModel" "alarm" "J", .fieldLink RX1 29 "ControlFileModel" "line" "Z"] ++ wsX10)
def wsX1_put : List Cond := .code yX1_put cX1_put 4 none :: ([.fieldLink RX1 7 "ControlFileModel" "kept" "[I"] ++ wsX10)
def wsX1_maskOf : List Cond := .code yX1_maskOf cX1_maskOf 1 (some .int) :: ([.constant RX1 45 (786722), .constant RX1 46 (-2143289345), .constant RX1 47 (7340992), .constant RX1 48 (45567), .constant RX1 49 (-2143289348)])
def wsX1_write : List Cond := .code yX1_write cX1_write 3 none :: ([.fieldLink RX1 7 "ControlFileModel" "kept" "[I", .methodLink RX1 50 yX1_put, .instanceMethod yX1_put, .selects RX1 yX1_put yX1_put, .initialized RX1, .code yX1_put cX1_put 4 none, .methodLink RX1 54 yX1_maskOf, .static yX1_maskOf, .code yX1_maskOf cX1_maskOf 1 (some .int), .constant RX1 45 (786722), .constant RX1 46 (-2143289345), .constant RX1 47 (7340992), .constant RX1 48 (45567), .constant RX1 49 (-2143289348)] ++ wsX10)
def wsX1_refusal : List Cond := .code yX1_refusal cX1_refusal 5 (some .int) :: ([.fieldLink RX1 16 "ControlFileModel" "mode" "I", .methodLink RX1 57 yX1_has, .instanceMethod yX1_has, .selects RX1 yX1_has yX1_has, .initialized RX1, .code yX1_has cX1_has 3 (some .boolean), .fieldLink RX1 7 "ControlFileModel" "kept" "[I"] ++ wsX10)
def wsX1_access_r1 : List Cond := [Cond.fieldLink RX1 16 "ControlFileModel" "mode" "I", Cond.fieldLink RX1 33 "ControlFileModel" "old" "I", Cond.methodLink RX1 61 yX1_placeOf, Cond.static yX1_placeOf, Cond.initialized RX1, Cond.code yX1_placeOf cX1_placeOf 3 (some .int), Cond.methodLink RX1 38 yX1_hyperOf, Cond.static yX1_hyperOf, Cond.code yX1_hyperOf cX1_hyperOf 1 (some .int), Cond.methodLink RX1 42 yX1_kindOf, Cond.static yX1_kindOf, Cond.code yX1_kindOf cX1_kindOf 1 (some .int), Cond.methodLink RX1 64 yX1_refusal, Cond.instanceMethod yX1_refusal, Cond.selects RX1 yX1_refusal yX1_refusal, Cond.code yX1_refusal cX1_refusal 5 (some .int), Cond.methodLink RX1 57 yX1_has, Cond.instanceMethod yX1_has, Cond.selects RX1 yX1_has yX1_has, Cond.code yX1_has cX1_has 3 (some .boolean), Cond.fieldLink RX1 7 "ControlFileModel" "kept" "[I", Cond.methodLink RX1 68 yX1_tells, Cond.instanceMethod yX1_tells, Cond.selects RX1 yX1_tells yX1_tells]
def wsX1_access_r2 : List Cond := [Cond.code yX1_tells cX1_tells 2 (some .int), Cond.fieldLink RX1 20 "ControlFileModel" "time" "J", Cond.fieldLink RX1 26 "ControlFileModel" "alarm" "J", Cond.fieldLink RX1 29 "ControlFileModel" "line" "Z", Cond.methodLink RX1 71 yX1_write, Cond.instanceMethod yX1_write, Cond.selects RX1 yX1_write yX1_write, Cond.code yX1_write cX1_write 3 none, Cond.methodLink RX1 50 yX1_put, Cond.instanceMethod yX1_put, Cond.selects RX1 yX1_put yX1_put, Cond.code yX1_put cX1_put 4 none, Cond.methodLink RX1 54 yX1_maskOf, Cond.static yX1_maskOf, Cond.code yX1_maskOf cX1_maskOf 1 (some .int), Cond.constant RX1 45 (786722), Cond.constant RX1 46 (-2143289345), Cond.constant RX1 47 (7340992), Cond.constant RX1 48 (45567), Cond.constant RX1 49 (-2143289348)]
def wsX1_access : List Cond := .code yX1_access cX1_access 7 (some .int) :: ((wsX1_access_r1 ++ wsX1_access_r2) ++ wsX10)
def wsX1_old : List Cond := .code yX1_old cX1_old 1 (some .int) :: ([.fieldLink RX1 33 "ControlFileModel" "old" "I"] ++ wsX10)
def wsX1_control : List Cond := .code yX1_control cX1_control 3 (some .int) :: ([.methodLink RX1 61 yX1_placeOf, .static yX1_placeOf, .initialized RX1, .code yX1_placeOf cX1_placeOf 3 (some .int), .methodLink RX1 38 yX1_hyperOf, .static yX1_hyperOf, .code yX1_hyperOf cX1_hyperOf 1 (some .int), .methodLink RX1 42 yX1_kindOf, .static yX1_kindOf, .code yX1_kindOf cX1_kindOf 1 (some .int), .methodLink RX1 68 yX1_tells, .instanceMethod yX1_tells, .selects RX1 yX1_tells yX1_tells, .code yX1_tells cX1_tells 2 (some .int), .fieldLink RX1 7 "ControlFileModel" "kept" "[I", .fieldLink RX1 20 "ControlFileModel" "time" "J", .fieldLink RX1 26 "ControlFileModel" "alarm" "J", .fieldLink RX1 29 "ControlFileModel" "line" "Z"] ++ wsX10)
def wsX1_used : List Cond := .code yX1_used cX1_used 3 (some .int) :: ([.methodLink RX1 68 yX1_tells, .instanceMethod yX1_tells, .selects RX1 yX1_tells yX1_tells, .initialized RX1, .code yX1_tells cX1_tells 2 (some .int), .fieldLink RX1 7 "ControlFileModel" "kept" "[I", .fieldLink RX1 20 "ControlFileModel" "time" "J", .fieldLink RX1 26 "ControlFileModel" "alarm" "J", .fieldLink RX1 29 "ControlFileModel" "line" "Z"] ++ wsX10)
def wsL_law_r1 : List Cond := [Cond.classLink RL 7 RX0, Cond.instantiable RX0 6, Cond.initialized RX0, Cond.classLink RL 10 RX1, Cond.instantiable RX1 6, Cond.initialized RX1, Cond.methodLink RL 9 yX0_init, Cond.instanceMethod yX0_init, Cond.code yX0_init cX0_init 1 none, Cond.methodLink RX0 3 objectInit, Cond.instanceMethod objectInit, Cond.code objectInit ⟨#[0xb1]⟩ 1 none, Cond.arrayClass .int, Cond.fieldLink RX0 9 "ControlFile" "kept" "[I", Cond.methodLink RX0 13 yX0_startOver, Cond.instanceMethod yX0_startOver, Cond.selects RX0 yX0_startOver yX0_startOver, Cond.code yX0_startOver cX0_startOver 1 none, Cond.fieldLink RX0 16 "ControlFile" "modeNow" "I", Cond.fieldLink RX0 22 "ControlFile" "timeNow" "J", Cond.constantLong RX0 29 (9223372036854775807), Cond.fieldLink RX0 26 "ControlFile" "alarmAt" "J", Cond.fieldLink RX0 31 "ControlFile" "lineOn" "Z", Cond.fieldLink RX0 58 "ControlFile" "oldValue" "I"]
def wsL_law_r2 : List Cond := [Cond.methodLink RX0 68 yJ7_fill_53178, Cond.static yJ7_fill_53178, Cond.initialized RJ7, Cond.code yJ7_fill_53178 cJ7_fill_53178 4 none, Cond.methodLink RL 12 yX1_init, Cond.instanceMethod yX1_init, Cond.code yX1_init cX1_init 1 none, Cond.methodLink RX1 1 objectInit, Cond.fieldLink RX1 7 "ControlFileModel" "kept" "[I", Cond.methodLink RX1 13 yX1_begin, Cond.instanceMethod yX1_begin, Cond.selects RX1 yX1_begin yX1_begin, Cond.code yX1_begin cX1_begin 2 none, Cond.fieldLink RX1 16 "ControlFileModel" "mode" "I", Cond.fieldLink RX1 20 "ControlFileModel" "time" "J", Cond.constantLong RX1 24 (9223372036854775807), Cond.fieldLink RX1 26 "ControlFileModel" "alarm" "J", Cond.fieldLink RX1 29 "ControlFileModel" "line" "Z", Cond.fieldLink RX1 33 "ControlFileModel" "old" "I", Cond.methodLink RL 13 yX0_begin, Cond.instanceMethod yX0_begin, Cond.selects RX0 yX0_begin yX0_begin, Cond.code yX0_begin cX0_begin 1 none, Cond.methodLink RL 16 yX1_begin]
def wsL_law_r3 : List Cond := [Cond.methodLink RL 17 yX0_mode, Cond.instanceMethod yX0_mode, Cond.selects RX0 yX0_mode yX0_mode, Cond.code yX0_mode cX0_mode 3 (some .int), Cond.methodLink RL 21 yX1_mode, Cond.instanceMethod yX1_mode, Cond.selects RX1 yX1_mode yX1_mode, Cond.code yX1_mode cX1_mode 3 (some .int), Cond.methodLink RL 24 yX0_time, Cond.instanceMethod yX0_time, Cond.selects RX0 yX0_time yX0_time, Cond.code yX0_time cX0_time 5 (some .long), Cond.constantLong RX0 20 (-1), Cond.methodLink RL 28 yX1_time, Cond.instanceMethod yX1_time, Cond.selects RX1 yX1_time yX1_time, Cond.code yX1_time cX1_time 5 (some .long), Cond.constantLong RX1 36 (-1), Cond.methodLink RL 29 yX0_alarm, Cond.instanceMethod yX0_alarm, Cond.selects RX0 yX0_alarm yX0_alarm, Cond.code yX0_alarm cX0_alarm 5 (some .long), Cond.methodLink RL 32 yX1_alarm, Cond.instanceMethod yX1_alarm]
def wsL_law_r4 : List Cond := [Cond.selects RX1 yX1_alarm yX1_alarm, Cond.code yX1_alarm cX1_alarm 5 (some .long), Cond.methodLink RL 33 yX0_line, Cond.instanceMethod yX0_line, Cond.selects RX0 yX0_line yX0_line, Cond.code yX0_line cX0_line 3 (some .boolean), Cond.methodLink RL 37 yX1_line, Cond.instanceMethod yX1_line, Cond.selects RX1 yX1_line yX1_line, Cond.code yX1_line cX1_line 3 (some .boolean), Cond.methodLink RL 38 yX0_access, Cond.instanceMethod yX0_access, Cond.selects RX0 yX0_access yX0_access, Cond.code yX0_access cX0_access 8 (some .int), Cond.methodLink RX0 35 yX0_slotOf, Cond.static yX0_slotOf, Cond.code yX0_slotOf cX0_slotOf 2 (some .int), Cond.fieldLink RX0 74 "ControlFile" "NUMBERS" "[I", Cond.methodLink RX0 39 yX0_permission, Cond.instanceMethod yX0_permission, Cond.selects RX0 yX0_permission yX0_permission, Cond.code yX0_permission cX0_permission 3 (some .int), Cond.methodLink RX0 77 yX0_isOfTime, Cond.static yX0_isOfTime]
def wsL_law_r5 : List Cond := [Cond.code yX0_isOfTime cX0_isOfTime 1 (some .boolean), Cond.methodLink RX0 43 yX0_isOfS, Cond.static yX0_isOfS, Cond.code yX0_isOfS cX0_isOfS 1 (some .boolean), Cond.methodLink RX0 80 yX0_isTrapped, Cond.instanceMethod yX0_isTrapped, Cond.selects RX0 yX0_isTrapped yX0_isTrapped, Cond.code yX0_isTrapped cX0_isTrapped 2 (some .boolean), Cond.constant RX0 83 (1048576), Cond.methodLink RX0 47 yX0_told, Cond.instanceMethod yX0_told, Cond.selects RX0 yX0_told yX0_told, Cond.code yX0_told cX0_told 2 (some .int), Cond.methodLink RX0 84 yX0_pendingForS, Cond.instanceMethod yX0_pendingForS, Cond.selects RX0 yX0_pendingForS yX0_pendingForS, Cond.code yX0_pendingForS cX0_pendingForS 2 (some .int), Cond.methodLink RX0 50 yX0_written, Cond.static yX0_written, Cond.code yX0_written cX0_written 3 (some .int), Cond.methodLink RX0 54 yX0_put, Cond.instanceMethod yX0_put, Cond.selects RX0 yX0_put yX0_put, Cond.code yX0_put cX0_put 3 none]
def wsL_law_r6 : List Cond := [Cond.fieldLink RX0 91 "ControlFile" "KEEPS" "[I", Cond.methodLink RX0 87 yX0_putBits, Cond.instanceMethod yX0_putBits, Cond.selects RX0 yX0_putBits yX0_putBits, Cond.code yX0_putBits cX0_putBits 4 none, Cond.methodLink RL 42 yX1_access, Cond.instanceMethod yX1_access, Cond.selects RX1 yX1_access yX1_access, Cond.code yX1_access cX1_access 7 (some .int), Cond.methodLink RX1 61 yX1_placeOf, Cond.static yX1_placeOf, Cond.code yX1_placeOf cX1_placeOf 3 (some .int), Cond.methodLink RX1 38 yX1_hyperOf, Cond.static yX1_hyperOf, Cond.code yX1_hyperOf cX1_hyperOf 1 (some .int), Cond.methodLink RX1 42 yX1_kindOf, Cond.static yX1_kindOf, Cond.code yX1_kindOf cX1_kindOf 1 (some .int), Cond.methodLink RX1 64 yX1_refusal, Cond.instanceMethod yX1_refusal, Cond.selects RX1 yX1_refusal yX1_refusal, Cond.code yX1_refusal cX1_refusal 5 (some .int), Cond.methodLink RX1 57 yX1_has, Cond.instanceMethod yX1_has]
def wsL_law_r7 : List Cond := [Cond.selects RX1 yX1_has yX1_has, Cond.code yX1_has cX1_has 3 (some .boolean), Cond.methodLink RX1 68 yX1_tells, Cond.instanceMethod yX1_tells, Cond.selects RX1 yX1_tells yX1_tells, Cond.code yX1_tells cX1_tells 2 (some .int), Cond.methodLink RX1 71 yX1_write, Cond.instanceMethod yX1_write, Cond.selects RX1 yX1_write yX1_write, Cond.code yX1_write cX1_write 3 none, Cond.methodLink RX1 50 yX1_put, Cond.instanceMethod yX1_put, Cond.selects RX1 yX1_put yX1_put, Cond.code yX1_put cX1_put 4 none, Cond.methodLink RX1 54 yX1_maskOf, Cond.static yX1_maskOf, Cond.code yX1_maskOf cX1_maskOf 1 (some .int), Cond.constant RX1 45 (786722), Cond.constant RX1 46 (-2143289345), Cond.constant RX1 47 (7340992), Cond.constant RX1 48 (45567), Cond.constant RX1 49 (-2143289348), Cond.methodLink RL 43 yX0_old, Cond.instanceMethod yX0_old]
def wsL_law_r8 : List Cond := [Cond.selects RX0 yX0_old yX0_old, Cond.code yX0_old cX0_old 1 (some .int), Cond.methodLink RL 47 yX1_old, Cond.instanceMethod yX1_old, Cond.selects RX1 yX1_old yX1_old, Cond.code yX1_old cX1_old 1 (some .int), Cond.methodLink RL 48 yX0_control, Cond.instanceMethod yX0_control, Cond.selects RX0 yX0_control yX0_control, Cond.code yX0_control cX0_control 2 (some .int), Cond.methodLink RL 51 yX1_control, Cond.instanceMethod yX1_control, Cond.selects RX1 yX1_control yX1_control, Cond.code yX1_control cX1_control 3 (some .int), Cond.methodLink RL 52 yX0_used, Cond.instanceMethod yX0_used, Cond.selects RX0 yX0_used yX0_used, Cond.code yX0_used cX0_used 3 (some .int), Cond.methodLink RL 55 yX1_used, Cond.instanceMethod yX1_used, Cond.selects RX1 yX1_used yX1_used, Cond.code yX1_used cX1_used 3 (some .int), Cond.methodLink RL 56 yX0_due, Cond.instanceMethod yX0_due]
def wsL_law_r9 : List Cond := [Cond.selects RX0 yX0_due yX0_due, Cond.code yX0_due cX0_due 2 (some .int), Cond.methodLink RX0 61 yX0_dueForS, Cond.instanceMethod yX0_dueForS, Cond.selects RX0 yX0_dueForS yX0_dueForS, Cond.code yX0_dueForS cX0_dueForS 3 (some .int), Cond.fieldLink RX0 94 "ControlFile" "S_ORDER" "[I", Cond.methodLink RX0 97 yX0_firstOf, Cond.static yX0_firstOf, Cond.code yX0_firstOf cX0_firstOf 3 (some .int), Cond.methodLink RX0 65 yX0_dueForVs, Cond.instanceMethod yX0_dueForVs, Cond.selects RX0 yX0_dueForVs yX0_dueForVs, Cond.code yX0_dueForVs cX0_dueForVs 3 (some .int), Cond.fieldLink RX0 101 "ControlFile" "VS_ORDER" "[I"]
def wsL_law : List Cond := (wsL_law_r1 ++ (wsL_law_r2 ++ (wsL_law_r3 ++ (wsL_law_r4 ++ (wsL_law_r5 ++ (wsL_law_r6 ++ (wsL_law_r7 ++ (wsL_law_r8 ++ wsL_law_r9)))))))) ++ wsX00 ++ wsX10 ++ ([] : List Cond)
set_option maxRecDepth 20000 in
theorem wsL_law_in : ∀ w ∈ wsL_law, w ∈ lw_tbl := fun w h => (goodIn_p wsL_law [22, 25, 29, 32, 155, 160, 57, 61, 185, 65, 189, 70, 194, 74, 198, 78, 81, 87, 90, 93, 97, 102, 106, 109, 113, 117, 202, 205, 208, 211, 215, 219, 223, 227, 231, 234, 123, 243, 127, 247, 131, 251, 135, 139, 144, 148] (by decide +kernel) (by decide +kernel) w h).1
theorem inlX0 : ∀ w ∈ wsX00, w ∈ wsL_law := fun _ h => List.mem_append_left _ (List.mem_append_left _ (List.mem_append_right _ h))
theorem inX0 : ∀ w ∈ wsX00, w ∈ lw_tbl := fun w h => wsL_law_in w (inlX0 w h)
theorem inlX1 : ∀ w ∈ wsX10, w ∈ wsL_law := fun _ h => List.mem_append_left _ (List.mem_append_right _ h)
theorem inX1 : ∀ w ∈ wsX10, w ∈ lw_tbl := fun w h => wsL_law_in w (inlX1 w h)
theorem inJ7 : ∀ w ∈ wsJ70, w ∈ lw_tbl := by decide +kernel
set_option maxRecDepth 20000 in
theorem ggX0_init_X0_startOver : GoodIn wsX0_init wsX0_startOver := goodIn_r _ [10, 5, 11, 12, 13, 14, 15, 16, 17, 18, 19, 20, 21, 22, 23, 24, 25, 26] (by decide +kernel) (by decide +kernel)
set_option maxRecDepth 20000 in
theorem gX0_init_X0_startOver : GoodIn wsX0_init (wsV RX0 13 RX0 yX0_startOver wsX0_startOver) := goodIn_app (goodIn_of _ (by decide +kernel)) ggX0_init_X0_startOver
theorem dX0_init_0 : decode cX0_init 0 = .ok (.aload_n 0, 1) := by decide +kernel
theorem dX0_init_1 : decode cX0_init 1 = .ok (.invokespecial 3, 3) := by decide +kernel
theorem dX0_init_4 : decode cX0_init 4 = .ok (.aload_n 0, 1) := by decide +kernel
theorem dX0_init_5 : decode cX0_init 5 = .ok (.bipush 29, 2) := by decide +kernel
theorem dX0_init_7 : decode cX0_init 7 = .ok (.newarray .int, 2) := by decide +kernel
theorem dX0_init_9 : decode cX0_init 9 = .ok (.putfield 9, 3) := by decide +kernel
theorem dX0_init_12 : decode cX0_init 12 = .ok (.aload_n 0, 1) := by decide +kernel
theorem dX0_init_13 : decode cX0_init 13 = .ok (.invokevirtual 13, 3) := by decide +kernel
theorem dX0_init_16 : decode cX0_init 16 = .ok (.return_, 1) := by decide +kernel
set_option maxRecDepth 20000 in
theorem ggX0_begin_X0_startOver : GoodIn wsX0_begin wsX0_startOver := goodIn_r _ [5, 6, 7, 8, 9, 10, 11, 12, 13, 14, 15, 16, 17, 18, 19, 20, 21, 22] (by decide +kernel) (by decide +kernel)
set_option maxRecDepth 20000 in
theorem gX0_begin_X0_startOver : GoodIn wsX0_begin (wsV RX0 13 RX0 yX0_startOver wsX0_startOver) := goodIn_app (goodIn_of _ (by decide +kernel)) ggX0_begin_X0_startOver
theorem dX0_begin_0 : decode cX0_begin 0 = .ok (.aload_n 0, 1) := by decide +kernel
theorem dX0_begin_1 : decode cX0_begin 1 = .ok (.invokevirtual 13, 3) := by decide +kernel
theorem dX0_begin_4 : decode cX0_begin 4 = .ok (.return_, 1) := by decide +kernel
theorem dX0_mode_0 : decode cX0_mode 0 = .ok (.iload_n 1, 1) := by decide +kernel
theorem dX0_mode_1 : decode cX0_mode 1 = .ok (.ifCond .lt 8, 3) := by decide +kernel
theorem dX0_mode_4 : decode cX0_mode 4 = .ok (.iload_n 1, 1) := by decide +kernel
theorem dX0_mode_5 : decode cX0_mode 5 = .ok (.iconst 3, 1) := by decide +kernel
theorem dX0_mode_6 : decode cX0_mode 6 = .ok (.if_icmp .le 5, 3) := by decide +kernel
theorem dX0_mode_9 : decode cX0_mode 9 = .ok (.iconst (-1), 1) := by decide +kernel
theorem dX0_mode_10 : decode cX0_mode 10 = .ok (.ireturn, 1) := by decide +kernel
theorem dX0_mode_11 : decode cX0_mode 11 = .ok (.aload_n 0, 1) := by decide +kernel
theorem dX0_mode_12 : decode cX0_mode 12 = .ok (.getfield 16, 3) := by decide +kernel
theorem dX0_mode_15 : decode cX0_mode 15 = .ok (.istore_n 2, 1) := by decide +kernel
theorem dX0_mode_16 : decode cX0_mode 16 = .ok (.aload_n 0, 1) := by decide +kernel
theorem dX0_mode_17 : decode cX0_mode 17 = .ok (.iload_n 1, 1) := by decide +kernel
theorem dX0_mode_18 : decode cX0_mode 18 = .ok (.putfield 16, 3) := by decide +kernel
theorem dX0_mode_21 : decode cX0_mode 21 = .ok (.iload_n 2, 1) := by decide +kernel
theorem dX0_mode_22 : decode cX0_mode 22 = .ok (.ireturn, 1) := by decide +kernel
theorem dX0_time_0 : decode cX0_time 0 = .ok (.lload_n 1, 1) := by decide +kernel
theorem dX0_time_1 : decode cX0_time 1 = .ok (.lconst 0, 1) := by decide +kernel
theorem dX0_time_2 : decode cX0_time 2 = .ok (.lcmp, 1) := by decide +kernel
theorem dX0_time_3 : decode cX0_time 3 = .ok (.ifCond .ge 7, 3) := by decide +kernel
theorem dX0_time_6 : decode cX0_time 6 = .ok (.ldc2_w 20, 3) := by decide +kernel
theorem dX0_time_9 : decode cX0_time 9 = .ok (.lreturn, 1) := by decide +kernel
theorem dX0_time_10 : decode cX0_time 10 = .ok (.aload_n 0, 1) := by decide +kernel
theorem dX0_time_11 : decode cX0_time 11 = .ok (.getfield 22, 3) := by decide +kernel
theorem dX0_time_14 : decode cX0_time 14 = .ok (.lstore_n 3, 1) := by decide +kernel
theorem dX0_time_15 : decode cX0_time 15 = .ok (.aload_n 0, 1) := by decide +kernel
theorem dX0_time_16 : decode cX0_time 16 = .ok (.lload_n 1, 1) := by decide +kernel
theorem dX0_time_17 : decode cX0_time 17 = .ok (.putfield 22, 3) := by decide +kernel
theorem dX0_time_20 : decode cX0_time 20 = .ok (.lload_n 3, 1) := by decide +kernel
theorem dX0_time_21 : decode cX0_time 21 = .ok (.lreturn, 1) := by decide +kernel
theorem dX0_alarm_0 : decode cX0_alarm 0 = .ok (.aload_n 0, 1) := by decide +kernel
theorem dX0_alarm_1 : decode cX0_alarm 1 = .ok (.getfield 26, 3) := by decide +kernel
theorem dX0_alarm_4 : decode cX0_alarm 4 = .ok (.lstore_n 3, 1) := by decide +kernel
theorem dX0_alarm_5 : decode cX0_alarm 5 = .ok (.aload_n 0, 1) := by decide +kernel
theorem dX0_alarm_6 : decode cX0_alarm 6 = .ok (.lload_n 1, 1) := by decide +kernel
theorem dX0_alarm_7 : decode cX0_alarm 7 = .ok (.lconst 0, 1) := by decide +kernel
theorem dX0_alarm_8 : decode cX0_alarm 8 = .ok (.lcmp, 1) := by decide +kernel
theorem dX0_alarm_9 : decode cX0_alarm 9 = .ok (.ifCond .ge 9, 3) := by decide +kernel
theorem dX0_alarm_12 : decode cX0_alarm 12 = .ok (.ldc2_w 29, 3) := by decide +kernel
theorem dX0_alarm_15 : decode cX0_alarm 15 = .ok (.goto 4, 3) := by decide +kernel
theorem dX0_alarm_18 : decode cX0_alarm 18 = .ok (.lload_n 1, 1) := by decide +kernel
theorem dX0_alarm_19 : decode cX0_alarm 19 = .ok (.putfield 26, 3) := by decide +kernel
theorem dX0_alarm_22 : decode cX0_alarm 22 = .ok (.lload_n 3, 1) := by decide +kernel
theorem dX0_alarm_23 : decode cX0_alarm 23 = .ok (.lreturn, 1) := by decide +kernel
theorem dX0_line_0 : decode cX0_line 0 = .ok (.aload_n 0, 1) := by decide +kernel
theorem dX0_line_1 : decode cX0_line 1 = .ok (.getfield 31, 3) := by decide +kernel
theorem dX0_line_4 : decode cX0_line 4 = .ok (.istore_n 2, 1) := by decide +kernel
theorem dX0_line_5 : decode cX0_line 5 = .ok (.aload_n 0, 1) := by decide +kernel
theorem dX0_line_6 : decode cX0_line 6 = .ok (.iload_n 1, 1) := by decide +kernel
theorem dX0_line_7 : decode cX0_line 7 = .ok (.putfield 31, 3) := by decide +kernel
theorem dX0_line_10 : decode cX0_line 10 = .ok (.iload_n 2, 1) := by decide +kernel
theorem dX0_line_11 : decode cX0_line 11 = .ok (.ireturn, 1) := by decide +kernel
set_option maxRecDepth 20000 in
theorem ggX0_access_X0_slotOf : GoodIn wsX0_access wsX0_slotOf := goodIn_r _ [6, 7] (by decide +kernel) (by decide +kernel)
set_option maxRecDepth 20000 in
theorem gX0_access_X0_slotOf : GoodIn wsX0_access (va_wsS RX0 35 yX0_slotOf wsX0_slotOf) := goodIn_app (goodIn_of _ (by decide +kernel)) ggX0_access_X0_slotOf
set_option maxRecDepth 20000 in
theorem ggX0_access_X0_permission : GoodIn wsX0_access wsX0_permission := goodIn_r _ [11, 1, 12, 13, 5, 14, 15, 16, 17, 18, 19, 20, 21, 22, 23, 47, 48, 49, 50, 51, 52] (by decide +kernel) (by decide +kernel)
set_option maxRecDepth 20000 in
theorem gX0_access_X0_permission : GoodIn wsX0_access (wsV RX0 39 RX0 yX0_permission wsX0_permission) := goodIn_app (goodIn_of _ (by decide +kernel)) ggX0_access_X0_permission
set_option maxRecDepth 20000 in
theorem ggX0_access_X0_isOfS : GoodIn wsX0_access wsX0_isOfS := goodIn_r _ [17] (by decide +kernel) (by decide +kernel)
set_option maxRecDepth 20000 in
theorem gX0_access_X0_isOfS : GoodIn wsX0_access (va_wsS RX0 43 yX0_isOfS wsX0_isOfS) := goodIn_app (goodIn_of _ (by decide +kernel)) ggX0_access_X0_isOfS
set_option maxRecDepth 20000 in
theorem ggX0_access_X0_told : GoodIn wsX0_access wsX0_told := goodIn_r _ [27, 22, 28, 29, 30, 31, 5, 32, 33, 34, 47, 48, 49, 50, 51, 52] (by decide +kernel) (by decide +kernel)
set_option maxRecDepth 20000 in
theorem gX0_access_X0_told : GoodIn wsX0_access (wsV RX0 47 RX0 yX0_told wsX0_told) := goodIn_app (goodIn_of _ (by decide +kernel)) ggX0_access_X0_told
set_option maxRecDepth 20000 in
theorem ggX0_access_X0_written : GoodIn wsX0_access wsX0_written := goodIn_r _ [37] (by decide +kernel) (by decide +kernel)
set_option maxRecDepth 20000 in
theorem gX0_access_X0_written : GoodIn wsX0_access (va_wsS RX0 50 yX0_written wsX0_written) := goodIn_app (goodIn_of _ (by decide +kernel)) ggX0_access_X0_written
set_option maxRecDepth 20000 in
theorem ggX0_access_X0_put : GoodIn wsX0_access wsX0_put := goodIn_r _ [41, 22, 42, 43, 44, 45, 5, 46, 47, 48, 49, 50, 51, 52] (by decide +kernel) (by decide +kernel)
set_option maxRecDepth 20000 in
theorem gX0_access_X0_put : GoodIn wsX0_access (wsV RX0 54 RX0 yX0_put wsX0_put) := goodIn_app (goodIn_of _ (by decide +kernel)) ggX0_access_X0_put
theorem dX0_access_0 : decode cX0_access 0 = .ok (.iload_n 2, 1) := by decide +kernel
theorem dX0_access_1 : decode cX0_access 1 = .ok (.ifCond .lt 8, 3) := by decide +kernel
theorem dX0_access_4 : decode cX0_access 4 = .ok (.iload_n 2, 1) := by decide +kernel
theorem dX0_access_5 : decode cX0_access 5 = .ok (.iconst 3, 1) := by decide +kernel
theorem dX0_access_6 : decode cX0_access 6 = .ok (.if_icmp .le 5, 3) := by decide +kernel
theorem dX0_access_9 : decode cX0_access 9 = .ok (.iconst (-1), 1) := by decide +kernel
theorem dX0_access_10 : decode cX0_access 10 = .ok (.ireturn, 1) := by decide +kernel
theorem dX0_access_11 : decode cX0_access 11 = .ok (.iload_n 1, 1) := by decide +kernel
theorem dX0_access_12 : decode cX0_access 12 = .ok (.invokestatic 35, 3) := by decide +kernel
theorem dX0_access_15 : decode cX0_access 15 = .ok (.istore 4, 2) := by decide +kernel
theorem dX0_access_17 : decode cX0_access 17 = .ok (.aload_n 0, 1) := by decide +kernel
theorem dX0_access_18 : decode cX0_access 18 = .ok (.iload 4, 2) := by decide +kernel
theorem dX0_access_20 : decode cX0_access 20 = .ok (.iload_n 2, 1) := by decide +kernel
theorem dX0_access_21 : decode cX0_access 21 = .ok (.ifCond .eq 7, 3) := by decide +kernel
theorem dX0_access_24 : decode cX0_access 24 = .ok (.iconst 1, 1) := by decide +kernel
theorem dX0_access_25 : decode cX0_access 25 = .ok (.goto 4, 3) := by decide +kernel
theorem dX0_access_28 : decode cX0_access 28 = .ok (.iconst 0, 1) := by decide +kernel
theorem dX0_access_29 : decode cX0_access 29 = .ok (.invokevirtual 39, 3) := by decide +kernel
theorem dX0_access_32 : decode cX0_access 32 = .ok (.istore 5, 2) := by decide +kernel
theorem dX0_access_34 : decode cX0_access 34 = .ok (.iload 5, 2) := by decide +kernel
theorem dX0_access_36 : decode cX0_access 36 = .ok (.ifCond .eq 6, 3) := by decide +kernel
theorem dX0_access_39 : decode cX0_access 39 = .ok (.iload 5, 2) := by decide +kernel
theorem dX0_access_41 : decode cX0_access 41 = .ok (.ireturn, 1) := by decide +kernel
theorem dX0_access_42 : decode cX0_access 42 = .ok (.aload_n 0, 1) := by decide +kernel
theorem dX0_access_43 : decode cX0_access 43 = .ok (.getfield 16, 3) := by decide +kernel
theorem dX0_access_46 : decode cX0_access 46 = .ok (.iconst 3, 1) := by decide +kernel
theorem dX0_access_47 : decode cX0_access 47 = .ok (.if_icmp .ne 19, 3) := by decide +kernel
theorem dX0_access_50 : decode cX0_access 50 = .ok (.iload 4, 2) := by decide +kernel
theorem dX0_access_52 : decode cX0_access 52 = .ok (.invokestatic 43, 3) := by decide +kernel
theorem dX0_access_55 : decode cX0_access 55 = .ok (.ifCond .eq 11, 3) := by decide +kernel
theorem dX0_access_58 : decode cX0_access 58 = .ok (.iload 4, 2) := by decide +kernel
theorem dX0_access_60 : decode cX0_access 60 = .ok (.bipush 9, 2) := by decide +kernel
theorem dX0_access_62 : decode cX0_access 62 = .ok (.iadd, 1) := by decide +kernel
theorem dX0_access_63 : decode cX0_access 63 = .ok (.goto 5, 3) := by decide +kernel
theorem dX0_access_66 : decode cX0_access 66 = .ok (.iload 4, 2) := by decide +kernel
theorem dX0_access_68 : decode cX0_access 68 = .ok (.istore 6, 2) := by decide +kernel
theorem dX0_access_70 : decode cX0_access 70 = .ok (.aload_n 0, 1) := by decide +kernel
theorem dX0_access_71 : decode cX0_access 71 = .ok (.iload 6, 2) := by decide +kernel
theorem dX0_access_73 : decode cX0_access 73 = .ok (.invokevirtual 47, 3) := by decide +kernel
theorem dX0_access_76 : decode cX0_access 76 = .ok (.istore 7, 2) := by decide +kernel
theorem dX0_access_78 : decode cX0_access 78 = .ok (.iload_n 2, 1) := by decide +kernel
theorem dX0_access_79 : decode cX0_access 79 = .ok (.ifCond .eq 16, 3) := by decide +kernel
theorem dX0_access_82 : decode cX0_access 82 = .ok (.aload_n 0, 1) := by decide +kernel
theorem dX0_access_83 : decode cX0_access 83 = .ok (.iload 6, 2) := by decide +kernel
theorem dX0_access_85 : decode cX0_access 85 = .ok (.iload 7, 2) := by decide +kernel
theorem dX0_access_87 : decode cX0_access 87 = .ok (.iload_n 2, 1) := by decide +kernel
theorem dX0_access_88 : decode cX0_access 88 = .ok (.iload_n 3, 1) := by decide +kernel
theorem dX0_access_89 : decode cX0_access 89 = .ok (.invokestatic 50, 3) := by decide +kernel
theorem dX0_access_92 : decode cX0_access 92 = .ok (.invokevirtual 54, 3) := by decide +kernel
theorem dX0_access_95 : decode cX0_access 95 = .ok (.aload_n 0, 1) := by decide +kernel
theorem dX0_access_96 : decode cX0_access 96 = .ok (.iload 7, 2) := by decide +kernel
theorem dX0_access_98 : decode cX0_access 98 = .ok (.putfield 58, 3) := by decide +kernel
theorem dX0_access_101 : decode cX0_access 101 = .ok (.iconst 0, 1) := by decide +kernel
theorem dX0_access_102 : decode cX0_access 102 = .ok (.ireturn, 1) := by decide +kernel
theorem dX0_old_0 : decode cX0_old 0 = .ok (.aload_n 0, 1) := by decide +kernel
theorem dX0_old_1 : decode cX0_old 1 = .ok (.getfield 58, 3) := by decide +kernel
theorem dX0_old_4 : decode cX0_old 4 = .ok (.ireturn, 1) := by decide +kernel
set_option maxRecDepth 20000 in
theorem ggX0_control_X0_slotOf : GoodIn wsX0_control wsX0_slotOf := goodIn_r _ [4, 5] (by decide +kernel) (by decide +kernel)
set_option maxRecDepth 20000 in
theorem gX0_control_X0_slotOf : GoodIn wsX0_control (va_wsS RX0 35 yX0_slotOf wsX0_slotOf) := goodIn_app (goodIn_of _ (by decide +kernel)) ggX0_control_X0_slotOf
set_option maxRecDepth 20000 in
theorem ggX0_control_X0_told : GoodIn wsX0_control wsX0_told := goodIn_r _ [9, 10, 11, 12, 13, 14, 3, 15, 16, 17, 18, 19, 20, 21, 22, 23] (by decide +kernel) (by decide +kernel)
set_option maxRecDepth 20000 in
theorem gX0_control_X0_told : GoodIn wsX0_control (wsV RX0 47 RX0 yX0_told wsX0_told) := goodIn_app (goodIn_of _ (by decide +kernel)) ggX0_control_X0_told
theorem dX0_control_0 : decode cX0_control 0 = .ok (.aload_n 0, 1) := by decide +kernel
theorem dX0_control_1 : decode cX0_control 1 = .ok (.iload_n 1, 1) := by decide +kernel
theorem dX0_control_2 : decode cX0_control 2 = .ok (.invokestatic 35, 3) := by decide +kernel
theorem dX0_control_5 : decode cX0_control 5 = .ok (.invokevirtual 47, 3) := by decide +kernel
theorem dX0_control_8 : decode cX0_control 8 = .ok (.ireturn, 1) := by decide +kernel
set_option maxRecDepth 20000 in
theorem ggX0_used_X0_told : GoodIn wsX0_used wsX0_told := goodIn_r _ [5, 6, 7, 8, 9, 10, 4, 11, 12, 13, 14, 15, 16, 17, 18, 19] (by decide +kernel) (by decide +kernel)
set_option maxRecDepth 20000 in
theorem gX0_used_X0_told : GoodIn wsX0_used (wsV RX0 47 RX0 yX0_told wsX0_told) := goodIn_app (goodIn_of _ (by decide +kernel)) ggX0_used_X0_told
theorem dX0_used_0 : decode cX0_used 0 = .ok (.iconst 0, 1) := by decide +kernel
theorem dX0_used_1 : decode cX0_used 1 = .ok (.istore_n 1, 1) := by decide +kernel
theorem dX0_used_2 : decode cX0_used 2 = .ok (.iconst 0, 1) := by decide +kernel
theorem dX0_used_3 : decode cX0_used 3 = .ok (.istore_n 2, 1) := by decide +kernel
theorem dX0_used_4 : decode cX0_used 4 = .ok (.iload_n 2, 1) := by decide +kernel
theorem dX0_used_5 : decode cX0_used 5 = .ok (.bipush 29, 2) := by decide +kernel
theorem dX0_used_7 : decode cX0_used 7 = .ok (.if_icmp .ge 20, 3) := by decide +kernel
theorem dX0_used_10 : decode cX0_used 10 = .ok (.aload_n 0, 1) := by decide +kernel
theorem dX0_used_11 : decode cX0_used 11 = .ok (.iload_n 2, 1) := by decide +kernel
theorem dX0_used_12 : decode cX0_used 12 = .ok (.invokevirtual 47, 3) := by decide +kernel
theorem dX0_used_15 : decode cX0_used 15 = .ok (.ifCond .eq 6, 3) := by decide +kernel
theorem dX0_used_18 : decode cX0_used 18 = .ok (.iinc 1 1, 3) := by decide +kernel
theorem dX0_used_21 : decode cX0_used 21 = .ok (.iinc 2 1, 3) := by decide +kernel
theorem dX0_used_24 : decode cX0_used 24 = .ok (.goto (-20), 3) := by decide +kernel
theorem dX0_used_27 : decode cX0_used 27 = .ok (.iload_n 1, 1) := by decide +kernel
theorem dX0_used_28 : decode cX0_used 28 = .ok (.ireturn, 1) := by decide +kernel
set_option maxRecDepth 20000 in
theorem ggX0_due_X0_dueForS : GoodIn wsX0_due wsX0_dueForS := goodIn_r _ [5, 6, 7, 8, 9, 10, 11, 4, 12, 13, 14, 15, 16, 17, 18, 24, 25, 26, 27, 28, 29] (by decide +kernel) (by decide +kernel)
set_option maxRecDepth 20000 in
theorem gX0_due_X0_dueForS : GoodIn wsX0_due (wsV RX0 61 RX0 yX0_dueForS wsX0_dueForS) := goodIn_app (goodIn_of _ (by decide +kernel)) ggX0_due_X0_dueForS
set_option maxRecDepth 20000 in
theorem ggX0_due_X0_dueForVs : GoodIn wsX0_due wsX0_dueForVs := goodIn_r _ [22, 6, 7, 23, 16, 17, 4, 18, 24, 25, 26, 27, 28, 29] (by decide +kernel) (by decide +kernel)
set_option maxRecDepth 20000 in
theorem gX0_due_X0_dueForVs : GoodIn wsX0_due (wsV RX0 65 RX0 yX0_dueForVs wsX0_dueForVs) := goodIn_app (goodIn_of _ (by decide +kernel)) ggX0_due_X0_dueForVs
theorem dX0_due_0 : decode cX0_due 0 = .ok (.aload_n 0, 1) := by decide +kernel
theorem dX0_due_1 : decode cX0_due 1 = .ok (.invokevirtual 61, 3) := by decide +kernel
theorem dX0_due_4 : decode cX0_due 4 = .ok (.istore_n 1, 1) := by decide +kernel
theorem dX0_due_5 : decode cX0_due 5 = .ok (.iload_n 1, 1) := by decide +kernel
theorem dX0_due_6 : decode cX0_due 6 = .ok (.iconst (-1), 1) := by decide +kernel
theorem dX0_due_7 : decode cX0_due 7 = .ok (.if_icmp .eq 7, 3) := by decide +kernel
theorem dX0_due_10 : decode cX0_due 10 = .ok (.iload_n 1, 1) := by decide +kernel
theorem dX0_due_11 : decode cX0_due 11 = .ok (.goto 7, 3) := by decide +kernel
theorem dX0_due_14 : decode cX0_due 14 = .ok (.aload_n 0, 1) := by decide +kernel
theorem dX0_due_15 : decode cX0_due 15 = .ok (.invokevirtual 65, 3) := by decide +kernel
theorem dX0_due_18 : decode cX0_due 18 = .ok (.ireturn, 1) := by decide +kernel
set_option maxRecDepth 20000 in
theorem ggX0_startOver_J7_fill_53178 : GoodIn wsX0_startOver wsJ7_fill_53178 := goodIn_r _ [11] (by decide +kernel) (by decide +kernel)
set_option maxRecDepth 20000 in
theorem gX0_startOver_J7_fill_53178 : GoodIn wsX0_startOver (va_wsS RX0 68 yJ7_fill_53178 wsJ7_fill_53178) := goodIn_app (goodIn_of _ (by decide +kernel)) ggX0_startOver_J7_fill_53178
theorem dX0_startOver_0 : decode cX0_startOver 0 = .ok (.aload_n 0, 1) := by decide +kernel
theorem dX0_startOver_1 : decode cX0_startOver 1 = .ok (.getfield 9, 3) := by decide +kernel
theorem dX0_startOver_4 : decode cX0_startOver 4 = .ok (.iconst 0, 1) := by decide +kernel
theorem dX0_startOver_5 : decode cX0_startOver 5 = .ok (.invokestatic 68, 3) := by decide +kernel
theorem dX0_startOver_8 : decode cX0_startOver 8 = .ok (.aload_n 0, 1) := by decide +kernel
theorem dX0_startOver_9 : decode cX0_startOver 9 = .ok (.iconst 1, 1) := by decide +kernel
theorem dX0_startOver_10 : decode cX0_startOver 10 = .ok (.putfield 16, 3) := by decide +kernel
theorem dX0_startOver_13 : decode cX0_startOver 13 = .ok (.aload_n 0, 1) := by decide +kernel
theorem dX0_startOver_14 : decode cX0_startOver 14 = .ok (.lconst 0, 1) := by decide +kernel
theorem dX0_startOver_15 : decode cX0_startOver 15 = .ok (.putfield 22, 3) := by decide +kernel
theorem dX0_startOver_18 : decode cX0_startOver 18 = .ok (.aload_n 0, 1) := by decide +kernel
theorem dX0_startOver_19 : decode cX0_startOver 19 = .ok (.ldc2_w 29, 3) := by decide +kernel
theorem dX0_startOver_22 : decode cX0_startOver 22 = .ok (.putfield 26, 3) := by decide +kernel
theorem dX0_startOver_25 : decode cX0_startOver 25 = .ok (.aload_n 0, 1) := by decide +kernel
theorem dX0_startOver_26 : decode cX0_startOver 26 = .ok (.iconst 0, 1) := by decide +kernel
theorem dX0_startOver_27 : decode cX0_startOver 27 = .ok (.putfield 31, 3) := by decide +kernel
theorem dX0_startOver_30 : decode cX0_startOver 30 = .ok (.aload_n 0, 1) := by decide +kernel
theorem dX0_startOver_31 : decode cX0_startOver 31 = .ok (.iconst 0, 1) := by decide +kernel
theorem dX0_startOver_32 : decode cX0_startOver 32 = .ok (.putfield 58, 3) := by decide +kernel
theorem dX0_startOver_35 : decode cX0_startOver 35 = .ok (.return_, 1) := by decide +kernel
theorem dX0_slotOf_0 : decode cX0_slotOf 0 = .ok (.iconst 0, 1) := by decide +kernel
theorem dX0_slotOf_1 : decode cX0_slotOf 1 = .ok (.istore_n 1, 1) := by decide +kernel
theorem dX0_slotOf_2 : decode cX0_slotOf 2 = .ok (.iload_n 1, 1) := by decide +kernel
theorem dX0_slotOf_3 : decode cX0_slotOf 3 = .ok (.getstatic 74, 3) := by decide +kernel
theorem dX0_slotOf_6 : decode cX0_slotOf 6 = .ok (.arraylength, 1) := by decide +kernel
theorem dX0_slotOf_7 : decode cX0_slotOf 7 = .ok (.if_icmp .ge 20, 3) := by decide +kernel
theorem dX0_slotOf_10 : decode cX0_slotOf 10 = .ok (.getstatic 74, 3) := by decide +kernel
theorem dX0_slotOf_13 : decode cX0_slotOf 13 = .ok (.iload_n 1, 1) := by decide +kernel
theorem dX0_slotOf_14 : decode cX0_slotOf 14 = .ok (.iaload, 1) := by decide +kernel
theorem dX0_slotOf_15 : decode cX0_slotOf 15 = .ok (.iload_n 0, 1) := by decide +kernel
theorem dX0_slotOf_16 : decode cX0_slotOf 16 = .ok (.if_icmp .ne 5, 3) := by decide +kernel
theorem dX0_slotOf_19 : decode cX0_slotOf 19 = .ok (.iload_n 1, 1) := by decide +kernel
theorem dX0_slotOf_20 : decode cX0_slotOf 20 = .ok (.ireturn, 1) := by decide +kernel
theorem dX0_slotOf_21 : decode cX0_slotOf 21 = .ok (.iinc 1 1, 3) := by decide +kernel
theorem dX0_slotOf_24 : decode cX0_slotOf 24 = .ok (.goto (-22), 3) := by decide +kernel
theorem dX0_slotOf_27 : decode cX0_slotOf 27 = .ok (.iconst (-1), 1) := by decide +kernel
theorem dX0_slotOf_28 : decode cX0_slotOf 28 = .ok (.ireturn, 1) := by decide +kernel
theorem dX0_isOfS_0 : decode cX0_isOfS 0 = .ok (.iload_n 0, 1) := by decide +kernel
theorem dX0_isOfS_1 : decode cX0_isOfS 1 = .ok (.ifCond .lt 13, 3) := by decide +kernel
theorem dX0_isOfS_4 : decode cX0_isOfS 4 = .ok (.iload_n 0, 1) := by decide +kernel
theorem dX0_isOfS_5 : decode cX0_isOfS 5 = .ok (.bipush 9, 2) := by decide +kernel
theorem dX0_isOfS_7 : decode cX0_isOfS 7 = .ok (.if_icmp .ge 7, 3) := by decide +kernel
theorem dX0_isOfS_10 : decode cX0_isOfS 10 = .ok (.iconst 1, 1) := by decide +kernel
theorem dX0_isOfS_11 : decode cX0_isOfS 11 = .ok (.goto 4, 3) := by decide +kernel
theorem dX0_isOfS_14 : decode cX0_isOfS 14 = .ok (.iconst 0, 1) := by decide +kernel
theorem dX0_isOfS_15 : decode cX0_isOfS 15 = .ok (.ireturn, 1) := by decide +kernel
theorem dX0_isOfTime_0 : decode cX0_isOfTime 0 = .ok (.iload_n 0, 1) := by decide +kernel
theorem dX0_isOfTime_1 : decode cX0_isOfTime 1 = .ok (.bipush 27, 2) := by decide +kernel
theorem dX0_isOfTime_3 : decode cX0_isOfTime 3 = .ok (.if_icmp .eq 9, 3) := by decide +kernel
theorem dX0_isOfTime_6 : decode cX0_isOfTime 6 = .ok (.iload_n 0, 1) := by decide +kernel
theorem dX0_isOfTime_7 : decode cX0_isOfTime 7 = .ok (.bipush 28, 2) := by decide +kernel
theorem dX0_isOfTime_9 : decode cX0_isOfTime 9 = .ok (.if_icmp .ne 7, 3) := by decide +kernel
theorem dX0_isOfTime_12 : decode cX0_isOfTime 12 = .ok (.iconst 1, 1) := by decide +kernel
theorem dX0_isOfTime_13 : decode cX0_isOfTime 13 = .ok (.goto 4, 3) := by decide +kernel
theorem dX0_isOfTime_16 : decode cX0_isOfTime 16 = .ok (.iconst 0, 1) := by decide +kernel
theorem dX0_isOfTime_17 : decode cX0_isOfTime 17 = .ok (.ireturn, 1) := by decide +kernel
set_option maxRecDepth 20000 in
theorem ggX0_permission_X0_isOfTime : GoodIn wsX0_permission wsX0_isOfTime := goodIn_r _ [5] (by decide +kernel) (by decide +kernel)
set_option maxRecDepth 20000 in
theorem gX0_permission_X0_isOfTime : GoodIn wsX0_permission (va_wsS RX0 77 yX0_isOfTime wsX0_isOfTime) := goodIn_app (goodIn_of _ (by decide +kernel)) ggX0_permission_X0_isOfTime
set_option maxRecDepth 20000 in
theorem ggX0_permission_X0_isOfS : GoodIn wsX0_permission wsX0_isOfS := goodIn_r _ [8] (by decide +kernel) (by decide +kernel)
set_option maxRecDepth 20000 in
theorem gX0_permission_X0_isOfS : GoodIn wsX0_permission (va_wsS RX0 43 yX0_isOfS wsX0_isOfS) := goodIn_app (goodIn_of _ (by decide +kernel)) ggX0_permission_X0_isOfS
set_option maxRecDepth 20000 in
theorem ggX0_permission_X0_isTrapped : GoodIn wsX0_permission wsX0_isTrapped := goodIn_r _ [12, 13, 14, 15, 16, 17, 18, 19, 20] (by decide +kernel) (by decide +kernel)
set_option maxRecDepth 20000 in
theorem gX0_permission_X0_isTrapped : GoodIn wsX0_permission (wsV RX0 80 RX0 yX0_isTrapped wsX0_isTrapped) := goodIn_app (goodIn_of _ (by decide +kernel)) ggX0_permission_X0_isTrapped
theorem dX0_permission_0 : decode cX0_permission 0 = .ok (.iload_n 1, 1) := by decide +kernel
theorem dX0_permission_1 : decode cX0_permission 1 = .ok (.iconst (-1), 1) := by decide +kernel
theorem dX0_permission_2 : decode cX0_permission 2 = .ok (.if_icmp .eq 14, 3) := by decide +kernel
theorem dX0_permission_5 : decode cX0_permission 5 = .ok (.iload_n 2, 1) := by decide +kernel
theorem dX0_permission_6 : decode cX0_permission 6 = .ok (.ifCond .eq 12, 3) := by decide +kernel
theorem dX0_permission_9 : decode cX0_permission 9 = .ok (.iload_n 1, 1) := by decide +kernel
theorem dX0_permission_10 : decode cX0_permission 10 = .ok (.invokestatic 77, 3) := by decide +kernel
theorem dX0_permission_13 : decode cX0_permission 13 = .ok (.ifCond .eq 5, 3) := by decide +kernel
theorem dX0_permission_16 : decode cX0_permission 16 = .ok (.iconst 2, 1) := by decide +kernel
theorem dX0_permission_17 : decode cX0_permission 17 = .ok (.ireturn, 1) := by decide +kernel
theorem dX0_permission_18 : decode cX0_permission 18 = .ok (.aload_n 0, 1) := by decide +kernel
theorem dX0_permission_19 : decode cX0_permission 19 = .ok (.getfield 16, 3) := by decide +kernel
theorem dX0_permission_22 : decode cX0_permission 22 = .ok (.iconst 1, 1) := by decide +kernel
theorem dX0_permission_23 : decode cX0_permission 23 = .ok (.if_icmp .eq 10, 3) := by decide +kernel
theorem dX0_permission_26 : decode cX0_permission 26 = .ok (.iload_n 1, 1) := by decide +kernel
theorem dX0_permission_27 : decode cX0_permission 27 = .ok (.invokestatic 77, 3) := by decide +kernel
theorem dX0_permission_30 : decode cX0_permission 30 = .ok (.ifCond .eq 5, 3) := by decide +kernel
theorem dX0_permission_33 : decode cX0_permission 33 = .ok (.iconst 0, 1) := by decide +kernel
theorem dX0_permission_34 : decode cX0_permission 34 = .ok (.ireturn, 1) := by decide +kernel
theorem dX0_permission_35 : decode cX0_permission 35 = .ok (.aload_n 0, 1) := by decide +kernel
theorem dX0_permission_36 : decode cX0_permission 36 = .ok (.getfield 16, 3) := by decide +kernel
theorem dX0_permission_39 : decode cX0_permission 39 = .ok (.ifCond .ne 5, 3) := by decide +kernel
theorem dX0_permission_42 : decode cX0_permission 42 = .ok (.iconst 2, 1) := by decide +kernel
theorem dX0_permission_43 : decode cX0_permission 43 = .ok (.ireturn, 1) := by decide +kernel
theorem dX0_permission_44 : decode cX0_permission 44 = .ok (.aload_n 0, 1) := by decide +kernel
theorem dX0_permission_45 : decode cX0_permission 45 = .ok (.getfield 16, 3) := by decide +kernel
theorem dX0_permission_48 : decode cX0_permission 48 = .ok (.iconst 3, 1) := by decide +kernel
theorem dX0_permission_49 : decode cX0_permission 49 = .ok (.if_icmp .ne 22, 3) := by decide +kernel
theorem dX0_permission_52 : decode cX0_permission 52 = .ok (.iload_n 1, 1) := by decide +kernel
theorem dX0_permission_53 : decode cX0_permission 53 = .ok (.invokestatic 43, 3) := by decide +kernel
theorem dX0_permission_56 : decode cX0_permission 56 = .ok (.ifCond .eq 15, 3) := by decide +kernel
theorem dX0_permission_59 : decode cX0_permission 59 = .ok (.aload_n 0, 1) := by decide +kernel
theorem dX0_permission_60 : decode cX0_permission 60 = .ok (.iload_n 1, 1) := by decide +kernel
theorem dX0_permission_61 : decode cX0_permission 61 = .ok (.invokevirtual 80, 3) := by decide +kernel
theorem dX0_permission_64 : decode cX0_permission 64 = .ok (.ifCond .ne 7, 3) := by decide +kernel
theorem dX0_permission_67 : decode cX0_permission 67 = .ok (.iconst 0, 1) := by decide +kernel
theorem dX0_permission_68 : decode cX0_permission 68 = .ok (.goto 5, 3) := by decide +kernel
theorem dX0_permission_71 : decode cX0_permission 71 = .ok (.bipush 22, 2) := by decide +kernel
theorem dX0_permission_73 : decode cX0_permission 73 = .ok (.ireturn, 1) := by decide +kernel
theorem dX0_isTrapped_0 : decode cX0_isTrapped 0 = .ok (.iload_n 1, 1) := by decide +kernel
theorem dX0_isTrapped_1 : decode cX0_isTrapped 1 = .ok (.bipush 8, 2) := by decide +kernel
theorem dX0_isTrapped_3 : decode cX0_isTrapped 3 = .ok (.if_icmp .ne 20, 3) := by decide +kernel
theorem dX0_isTrapped_6 : decode cX0_isTrapped 6 = .ok (.aload_n 0, 1) := by decide +kernel
theorem dX0_isTrapped_7 : decode cX0_isTrapped 7 = .ok (.getfield 9, 3) := by decide +kernel
theorem dX0_isTrapped_10 : decode cX0_isTrapped 10 = .ok (.bipush 18, 2) := by decide +kernel
theorem dX0_isTrapped_12 : decode cX0_isTrapped 12 = .ok (.iaload, 1) := by decide +kernel
theorem dX0_isTrapped_13 : decode cX0_isTrapped 13 = .ok (.ldc 83, 2) := by decide +kernel
theorem dX0_isTrapped_15 : decode cX0_isTrapped 15 = .ok (.iand, 1) := by decide +kernel
theorem dX0_isTrapped_16 : decode cX0_isTrapped 16 = .ok (.ifCond .eq 7, 3) := by decide +kernel
theorem dX0_isTrapped_19 : decode cX0_isTrapped 19 = .ok (.iconst 1, 1) := by decide +kernel
theorem dX0_isTrapped_20 : decode cX0_isTrapped 20 = .ok (.goto 4, 3) := by decide +kernel
theorem dX0_isTrapped_23 : decode cX0_isTrapped 23 = .ok (.iconst 0, 1) := by decide +kernel
theorem dX0_isTrapped_24 : decode cX0_isTrapped 24 = .ok (.ireturn, 1) := by decide +kernel
theorem dX0_written_0 : decode cX0_written 0 = .ok (.iload_n 1, 1) := by decide +kernel
theorem dX0_written_1 : decode cX0_written 1 = .ok (.iconst 1, 1) := by decide +kernel
theorem dX0_written_2 : decode cX0_written 2 = .ok (.if_icmp .ne 5, 3) := by decide +kernel
theorem dX0_written_5 : decode cX0_written 5 = .ok (.iload_n 2, 1) := by decide +kernel
theorem dX0_written_6 : decode cX0_written 6 = .ok (.ireturn, 1) := by decide +kernel
theorem dX0_written_7 : decode cX0_written 7 = .ok (.iload_n 1, 1) := by decide +kernel
theorem dX0_written_8 : decode cX0_written 8 = .ok (.iconst 2, 1) := by decide +kernel
theorem dX0_written_9 : decode cX0_written 9 = .ok (.if_icmp .ne 9, 3) := by decide +kernel
theorem dX0_written_12 : decode cX0_written 12 = .ok (.iload_n 0, 1) := by decide +kernel
theorem dX0_written_13 : decode cX0_written 13 = .ok (.iload_n 2, 1) := by decide +kernel
theorem dX0_written_14 : decode cX0_written 14 = .ok (.ior, 1) := by decide +kernel
theorem dX0_written_15 : decode cX0_written 15 = .ok (.goto 8, 3) := by decide +kernel
theorem dX0_written_18 : decode cX0_written 18 = .ok (.iload_n 0, 1) := by decide +kernel
theorem dX0_written_19 : decode cX0_written 19 = .ok (.iload_n 2, 1) := by decide +kernel
theorem dX0_written_20 : decode cX0_written 20 = .ok (.iconst (-1), 1) := by decide +kernel
theorem dX0_written_21 : decode cX0_written 21 = .ok (.ixor, 1) := by decide +kernel
theorem dX0_written_22 : decode cX0_written 22 = .ok (.iand, 1) := by decide +kernel
theorem dX0_written_23 : decode cX0_written 23 = .ok (.ireturn, 1) := by decide +kernel
set_option maxRecDepth 20000 in
theorem ggX0_told_X0_pendingForS : GoodIn wsX0_told wsX0_pendingForS := goodIn_r _ [7, 1, 2, 8, 9, 10, 11, 12, 13, 14, 15] (by decide +kernel) (by decide +kernel)
set_option maxRecDepth 20000 in
theorem gX0_told_X0_pendingForS : GoodIn wsX0_told (wsV RX0 84 RX0 yX0_pendingForS wsX0_pendingForS) := goodIn_app (goodIn_of _ (by decide +kernel)) ggX0_told_X0_pendingForS
theorem dX0_told_0 : decode cX0_told 0 = .ok (.iload_n 1, 1) := by decide +kernel
theorem dX0_told_1 : decode cX0_told 1 = .ok (.lookupswitch 123 #[(7, 59), (10, 64), (16, 82), (23, 100), (27, 108), (28, 114)], 59) := by decide +kernel
theorem dX0_told_60 : decode cX0_told 60 = .ok (.aload_n 0, 1) := by decide +kernel
theorem dX0_told_61 : decode cX0_told 61 = .ok (.invokevirtual 84, 3) := by decide +kernel
theorem dX0_told_64 : decode cX0_told 64 = .ok (.ireturn, 1) := by decide +kernel
theorem dX0_told_65 : decode cX0_told 65 = .ok (.aload_n 0, 1) := by decide +kernel
theorem dX0_told_66 : decode cX0_told 66 = .ok (.getfield 9, 3) := by decide +kernel
theorem dX0_told_69 : decode cX0_told 69 = .ok (.bipush 21, 2) := by decide +kernel
theorem dX0_told_71 : decode cX0_told 71 = .ok (.iaload, 1) := by decide +kernel
theorem dX0_told_72 : decode cX0_told 72 = .ok (.aload_n 0, 1) := by decide +kernel
theorem dX0_told_73 : decode cX0_told 73 = .ok (.getfield 9, 3) := by decide +kernel
theorem dX0_told_76 : decode cX0_told 76 = .ok (.bipush 20, 2) := by decide +kernel
theorem dX0_told_78 : decode cX0_told 78 = .ok (.iaload, 1) := by decide +kernel
theorem dX0_told_79 : decode cX0_told 79 = .ok (.iand, 1) := by decide +kernel
theorem dX0_told_80 : decode cX0_told 80 = .ok (.iconst 1, 1) := by decide +kernel
theorem dX0_told_81 : decode cX0_told 81 = .ok (.iushr, 1) := by decide +kernel
theorem dX0_told_82 : decode cX0_told 82 = .ok (.ireturn, 1) := by decide +kernel
theorem dX0_told_83 : decode cX0_told 83 = .ok (.aload_n 0, 1) := by decide +kernel
theorem dX0_told_84 : decode cX0_told 84 = .ok (.getfield 9, 3) := by decide +kernel
theorem dX0_told_87 : decode cX0_told 87 = .ok (.bipush 24, 2) := by decide +kernel
theorem dX0_told_89 : decode cX0_told 89 = .ok (.iaload, 1) := by decide +kernel
theorem dX0_told_90 : decode cX0_told 90 = .ok (.aload_n 0, 1) := by decide +kernel
theorem dX0_told_91 : decode cX0_told 91 = .ok (.getfield 9, 3) := by decide +kernel
theorem dX0_told_94 : decode cX0_told 94 = .ok (.bipush 20, 2) := by decide +kernel
theorem dX0_told_96 : decode cX0_told 96 = .ok (.iaload, 1) := by decide +kernel
theorem dX0_told_97 : decode cX0_told 97 = .ok (.iand, 1) := by decide +kernel
theorem dX0_told_98 : decode cX0_told 98 = .ok (.iconst 1, 1) := by decide +kernel
theorem dX0_told_99 : decode cX0_told 99 = .ok (.iushr, 1) := by decide +kernel
theorem dX0_told_100 : decode cX0_told 100 = .ok (.ireturn, 1) := by decide +kernel
theorem dX0_told_101 : decode cX0_told 101 = .ok (.aload_n 0, 1) := by decide +kernel
theorem dX0_told_102 : decode cX0_told 102 = .ok (.getfield 9, 3) := by decide +kernel
theorem dX0_told_105 : decode cX0_told 105 = .ok (.bipush 24, 2) := by decide +kernel
theorem dX0_told_107 : decode cX0_told 107 = .ok (.iaload, 1) := by decide +kernel
theorem dX0_told_108 : decode cX0_told 108 = .ok (.ireturn, 1) := by decide +kernel
theorem dX0_told_109 : decode cX0_told 109 = .ok (.aload_n 0, 1) := by decide +kernel
theorem dX0_told_110 : decode cX0_told 110 = .ok (.getfield 22, 3) := by decide +kernel
theorem dX0_told_113 : decode cX0_told 113 = .ok (.l2i, 1) := by decide +kernel
theorem dX0_told_114 : decode cX0_told 114 = .ok (.ireturn, 1) := by decide +kernel
theorem dX0_told_115 : decode cX0_told 115 = .ok (.aload_n 0, 1) := by decide +kernel
theorem dX0_told_116 : decode cX0_told 116 = .ok (.getfield 22, 3) := by decide +kernel
theorem dX0_told_119 : decode cX0_told 119 = .ok (.bipush 32, 2) := by decide +kernel
theorem dX0_told_121 : decode cX0_told 121 = .ok (.lushr, 1) := by decide +kernel
theorem dX0_told_122 : decode cX0_told 122 = .ok (.l2i, 1) := by decide +kernel
theorem dX0_told_123 : decode cX0_told 123 = .ok (.ireturn, 1) := by decide +kernel
theorem dX0_told_124 : decode cX0_told 124 = .ok (.iload_n 1, 1) := by decide +kernel
theorem dX0_told_125 : decode cX0_told 125 = .ok (.ifCond .lt 21, 3) := by decide +kernel
theorem dX0_told_128 : decode cX0_told 128 = .ok (.iload_n 1, 1) := by decide +kernel
theorem dX0_told_129 : decode cX0_told 129 = .ok (.aload_n 0, 1) := by decide +kernel
theorem dX0_told_130 : decode cX0_told 130 = .ok (.getfield 9, 3) := by decide +kernel
theorem dX0_told_133 : decode cX0_told 133 = .ok (.arraylength, 1) := by decide +kernel
theorem dX0_told_134 : decode cX0_told 134 = .ok (.if_icmp .ge 12, 3) := by decide +kernel
theorem dX0_told_137 : decode cX0_told 137 = .ok (.aload_n 0, 1) := by decide +kernel
theorem dX0_told_138 : decode cX0_told 138 = .ok (.getfield 9, 3) := by decide +kernel
theorem dX0_told_141 : decode cX0_told 141 = .ok (.iload_n 1, 1) := by decide +kernel
theorem dX0_told_142 : decode cX0_told 142 = .ok (.iaload, 1) := by decide +kernel
theorem dX0_told_143 : decode cX0_told 143 = .ok (.goto 4, 3) := by decide +kernel
theorem dX0_told_146 : decode cX0_told 146 = .ok (.iconst 0, 1) := by decide +kernel
theorem dX0_told_147 : decode cX0_told 147 = .ok (.ireturn, 1) := by decide +kernel
theorem dX0_pendingForS_0 : decode cX0_pendingForS 0 = .ok (.aload_n 0, 1) := by decide +kernel
theorem dX0_pendingForS_1 : decode cX0_pendingForS 1 = .ok (.getfield 9, 3) := by decide +kernel
theorem dX0_pendingForS_4 : decode cX0_pendingForS 4 = .ok (.bipush 7, 2) := by decide +kernel
theorem dX0_pendingForS_6 : decode cX0_pendingForS 6 = .ok (.iaload, 1) := by decide +kernel
theorem dX0_pendingForS_7 : decode cX0_pendingForS 7 = .ok (.istore_n 1, 1) := by decide +kernel
theorem dX0_pendingForS_8 : decode cX0_pendingForS 8 = .ok (.aload_n 0, 1) := by decide +kernel
theorem dX0_pendingForS_9 : decode cX0_pendingForS 9 = .ok (.getfield 22, 3) := by decide +kernel
theorem dX0_pendingForS_12 : decode cX0_pendingForS 12 = .ok (.aload_n 0, 1) := by decide +kernel
theorem dX0_pendingForS_13 : decode cX0_pendingForS 13 = .ok (.getfield 26, 3) := by decide +kernel
theorem dX0_pendingForS_16 : decode cX0_pendingForS 16 = .ok (.lcmp, 1) := by decide +kernel
theorem dX0_pendingForS_17 : decode cX0_pendingForS 17 = .ok (.ifCond .lt 8, 3) := by decide +kernel
theorem dX0_pendingForS_20 : decode cX0_pendingForS 20 = .ok (.iload_n 1, 1) := by decide +kernel
theorem dX0_pendingForS_21 : decode cX0_pendingForS 21 = .ok (.bipush 32, 2) := by decide +kernel
theorem dX0_pendingForS_23 : decode cX0_pendingForS 23 = .ok (.ior, 1) := by decide +kernel
theorem dX0_pendingForS_24 : decode cX0_pendingForS 24 = .ok (.istore_n 1, 1) := by decide +kernel
theorem dX0_pendingForS_25 : decode cX0_pendingForS 25 = .ok (.aload_n 0, 1) := by decide +kernel
theorem dX0_pendingForS_26 : decode cX0_pendingForS 26 = .ok (.getfield 31, 3) := by decide +kernel
theorem dX0_pendingForS_29 : decode cX0_pendingForS 29 = .ok (.ifCond .eq 9, 3) := by decide +kernel
theorem dX0_pendingForS_32 : decode cX0_pendingForS 32 = .ok (.iload_n 1, 1) := by decide +kernel
theorem dX0_pendingForS_33 : decode cX0_pendingForS 33 = .ok (.sipush 512, 3) := by decide +kernel
theorem dX0_pendingForS_36 : decode cX0_pendingForS 36 = .ok (.ior, 1) := by decide +kernel
theorem dX0_pendingForS_37 : decode cX0_pendingForS 37 = .ok (.istore_n 1, 1) := by decide +kernel
theorem dX0_pendingForS_38 : decode cX0_pendingForS 38 = .ok (.iload_n 1, 1) := by decide +kernel
theorem dX0_pendingForS_39 : decode cX0_pendingForS 39 = .ok (.ireturn, 1) := by decide +kernel
set_option maxRecDepth 20000 in
theorem ggX0_put_X0_putBits : GoodIn wsX0_put wsX0_putBits := goodIn_r _ [7, 1, 8, 9, 10, 11, 12, 13] (by decide +kernel) (by decide +kernel)
set_option maxRecDepth 20000 in
theorem gX0_put_X0_putBits : GoodIn wsX0_put (wsV RX0 87 RX0 yX0_putBits wsX0_putBits) := goodIn_app (goodIn_of _ (by decide +kernel)) ggX0_put_X0_putBits
theorem dX0_put_0 : decode cX0_put 0 = .ok (.iload_n 1, 1) := by decide +kernel
theorem dX0_put_1 : decode cX0_put 1 = .ok (.lookupswitch 86 #[(10, 35), (16, 54), (23, 75)], 35) := by decide +kernel
theorem dX0_put_36 : decode cX0_put 36 = .ok (.aload_n 0, 1) := by decide +kernel
theorem dX0_put_37 : decode cX0_put 37 = .ok (.bipush 21, 2) := by decide +kernel
theorem dX0_put_39 : decode cX0_put 39 = .ok (.iload_n 2, 1) := by decide +kernel
theorem dX0_put_40 : decode cX0_put 40 = .ok (.iconst 1, 1) := by decide +kernel
theorem dX0_put_41 : decode cX0_put 41 = .ok (.ishl, 1) := by decide +kernel
theorem dX0_put_42 : decode cX0_put 42 = .ok (.aload_n 0, 1) := by decide +kernel
theorem dX0_put_43 : decode cX0_put 43 = .ok (.getfield 9, 3) := by decide +kernel
theorem dX0_put_46 : decode cX0_put 46 = .ok (.bipush 20, 2) := by decide +kernel
theorem dX0_put_48 : decode cX0_put 48 = .ok (.iaload, 1) := by decide +kernel
theorem dX0_put_49 : decode cX0_put 49 = .ok (.invokevirtual 87, 3) := by decide +kernel
theorem dX0_put_52 : decode cX0_put 52 = .ok (.goto 69, 3) := by decide +kernel
theorem dX0_put_55 : decode cX0_put 55 = .ok (.aload_n 0, 1) := by decide +kernel
theorem dX0_put_56 : decode cX0_put 56 = .ok (.bipush 24, 2) := by decide +kernel
theorem dX0_put_58 : decode cX0_put 58 = .ok (.iload_n 2, 1) := by decide +kernel
theorem dX0_put_59 : decode cX0_put 59 = .ok (.iconst 1, 1) := by decide +kernel
theorem dX0_put_60 : decode cX0_put 60 = .ok (.ishl, 1) := by decide +kernel
theorem dX0_put_61 : decode cX0_put 61 = .ok (.iconst 4, 1) := by decide +kernel
theorem dX0_put_62 : decode cX0_put 62 = .ok (.aload_n 0, 1) := by decide +kernel
theorem dX0_put_63 : decode cX0_put 63 = .ok (.getfield 9, 3) := by decide +kernel
theorem dX0_put_66 : decode cX0_put 66 = .ok (.bipush 20, 2) := by decide +kernel
theorem dX0_put_68 : decode cX0_put 68 = .ok (.iaload, 1) := by decide +kernel
theorem dX0_put_69 : decode cX0_put 69 = .ok (.iand, 1) := by decide +kernel
theorem dX0_put_70 : decode cX0_put 70 = .ok (.invokevirtual 87, 3) := by decide +kernel
theorem dX0_put_73 : decode cX0_put 73 = .ok (.goto 48, 3) := by decide +kernel
theorem dX0_put_76 : decode cX0_put 76 = .ok (.aload_n 0, 1) := by decide +kernel
theorem dX0_put_77 : decode cX0_put 77 = .ok (.bipush 24, 2) := by decide +kernel
theorem dX0_put_79 : decode cX0_put 79 = .ok (.iload_n 2, 1) := by decide +kernel
theorem dX0_put_80 : decode cX0_put 80 = .ok (.iconst 4, 1) := by decide +kernel
theorem dX0_put_81 : decode cX0_put 81 = .ok (.invokevirtual 87, 3) := by decide +kernel
theorem dX0_put_84 : decode cX0_put 84 = .ok (.goto 37, 3) := by decide +kernel
theorem dX0_put_87 : decode cX0_put 87 = .ok (.iload_n 1, 1) := by decide +kernel
theorem dX0_put_88 : decode cX0_put 88 = .ok (.ifCond .lt 33, 3) := by decide +kernel
theorem dX0_put_91 : decode cX0_put 91 = .ok (.iload_n 1, 1) := by decide +kernel
theorem dX0_put_92 : decode cX0_put 92 = .ok (.aload_n 0, 1) := by decide +kernel
theorem dX0_put_93 : decode cX0_put 93 = .ok (.getfield 9, 3) := by decide +kernel
theorem dX0_put_96 : decode cX0_put 96 = .ok (.arraylength, 1) := by decide +kernel
theorem dX0_put_97 : decode cX0_put 97 = .ok (.if_icmp .ge 24, 3) := by decide +kernel
theorem dX0_put_100 : decode cX0_put 100 = .ok (.iload_n 1, 1) := by decide +kernel
theorem dX0_put_101 : decode cX0_put 101 = .ok (.getstatic 91, 3) := by decide +kernel
theorem dX0_put_104 : decode cX0_put 104 = .ok (.arraylength, 1) := by decide +kernel
theorem dX0_put_105 : decode cX0_put 105 = .ok (.if_icmp .ge 16, 3) := by decide +kernel
theorem dX0_put_108 : decode cX0_put 108 = .ok (.aload_n 0, 1) := by decide +kernel
theorem dX0_put_109 : decode cX0_put 109 = .ok (.getfield 9, 3) := by decide +kernel
theorem dX0_put_112 : decode cX0_put 112 = .ok (.iload_n 1, 1) := by decide +kernel
theorem dX0_put_113 : decode cX0_put 113 = .ok (.iload_n 2, 1) := by decide +kernel
theorem dX0_put_114 : decode cX0_put 114 = .ok (.getstatic 91, 3) := by decide +kernel
theorem dX0_put_117 : decode cX0_put 117 = .ok (.iload_n 1, 1) := by decide +kernel
theorem dX0_put_118 : decode cX0_put 118 = .ok (.iaload, 1) := by decide +kernel
theorem dX0_put_119 : decode cX0_put 119 = .ok (.iand, 1) := by decide +kernel
theorem dX0_put_120 : decode cX0_put 120 = .ok (.iastore, 1) := by decide +kernel
theorem dX0_put_121 : decode cX0_put 121 = .ok (.return_, 1) := by decide +kernel
theorem dX0_putBits_0 : decode cX0_putBits 0 = .ok (.iload_n 1, 1) := by decide +kernel
theorem dX0_putBits_1 : decode cX0_putBits 1 = .ok (.ifCond .lt 32, 3) := by decide +kernel
theorem dX0_putBits_4 : decode cX0_putBits 4 = .ok (.iload_n 1, 1) := by decide +kernel
theorem dX0_putBits_5 : decode cX0_putBits 5 = .ok (.aload_n 0, 1) := by decide +kernel
theorem dX0_putBits_6 : decode cX0_putBits 6 = .ok (.getfield 9, 3) := by decide +kernel
theorem dX0_putBits_9 : decode cX0_putBits 9 = .ok (.arraylength, 1) := by decide +kernel
theorem dX0_putBits_10 : decode cX0_putBits 10 = .ok (.if_icmp .ge 23, 3) := by decide +kernel
theorem dX0_putBits_13 : decode cX0_putBits 13 = .ok (.aload_n 0, 1) := by decide +kernel
theorem dX0_putBits_14 : decode cX0_putBits 14 = .ok (.getfield 9, 3) := by decide +kernel
theorem dX0_putBits_17 : decode cX0_putBits 17 = .ok (.iload_n 1, 1) := by decide +kernel
theorem dX0_putBits_18 : decode cX0_putBits 18 = .ok (.aload_n 0, 1) := by decide +kernel
theorem dX0_putBits_19 : decode cX0_putBits 19 = .ok (.getfield 9, 3) := by decide +kernel
theorem dX0_putBits_22 : decode cX0_putBits 22 = .ok (.iload_n 1, 1) := by decide +kernel
theorem dX0_putBits_23 : decode cX0_putBits 23 = .ok (.iaload, 1) := by decide +kernel
theorem dX0_putBits_24 : decode cX0_putBits 24 = .ok (.iload_n 3, 1) := by decide +kernel
theorem dX0_putBits_25 : decode cX0_putBits 25 = .ok (.iconst (-1), 1) := by decide +kernel
theorem dX0_putBits_26 : decode cX0_putBits 26 = .ok (.ixor, 1) := by decide +kernel
theorem dX0_putBits_27 : decode cX0_putBits 27 = .ok (.iand, 1) := by decide +kernel
theorem dX0_putBits_28 : decode cX0_putBits 28 = .ok (.iload_n 2, 1) := by decide +kernel
theorem dX0_putBits_29 : decode cX0_putBits 29 = .ok (.iload_n 3, 1) := by decide +kernel
theorem dX0_putBits_30 : decode cX0_putBits 30 = .ok (.iand, 1) := by decide +kernel
theorem dX0_putBits_31 : decode cX0_putBits 31 = .ok (.ior, 1) := by decide +kernel
theorem dX0_putBits_32 : decode cX0_putBits 32 = .ok (.iastore, 1) := by decide +kernel
theorem dX0_putBits_33 : decode cX0_putBits 33 = .ok (.return_, 1) := by decide +kernel
set_option maxRecDepth 20000 in
theorem ggX0_dueForS_X0_pendingForS : GoodIn wsX0_dueForS wsX0_pendingForS := goodIn_r _ [8, 2, 9, 10, 11, 15, 16, 17, 18, 19, 20] (by decide +kernel) (by decide +kernel)
set_option maxRecDepth 20000 in
theorem gX0_dueForS_X0_pendingForS : GoodIn wsX0_dueForS (wsV RX0 84 RX0 yX0_pendingForS wsX0_pendingForS) := goodIn_app (goodIn_of _ (by decide +kernel)) ggX0_dueForS_X0_pendingForS
set_option maxRecDepth 20000 in
theorem ggX0_dueForS_X0_firstOf : GoodIn wsX0_dueForS wsX0_firstOf := goodIn_r _ [14] (by decide +kernel) (by decide +kernel)
set_option maxRecDepth 20000 in
theorem gX0_dueForS_X0_firstOf : GoodIn wsX0_dueForS (va_wsS RX0 97 yX0_firstOf wsX0_firstOf) := goodIn_app (goodIn_of _ (by decide +kernel)) ggX0_dueForS_X0_firstOf
theorem dX0_dueForS_0 : decode cX0_dueForS 0 = .ok (.aload_n 0, 1) := by decide +kernel
theorem dX0_dueForS_1 : decode cX0_dueForS 1 = .ok (.getfield 16, 3) := by decide +kernel
theorem dX0_dueForS_4 : decode cX0_dueForS 4 = .ok (.iconst 1, 1) := by decide +kernel
theorem dX0_dueForS_5 : decode cX0_dueForS 5 = .ok (.if_icmp .ne 16, 3) := by decide +kernel
theorem dX0_dueForS_8 : decode cX0_dueForS 8 = .ok (.aload_n 0, 1) := by decide +kernel
theorem dX0_dueForS_9 : decode cX0_dueForS 9 = .ok (.getfield 9, 3) := by decide +kernel
theorem dX0_dueForS_12 : decode cX0_dueForS 12 = .ok (.iconst 0, 1) := by decide +kernel
theorem dX0_dueForS_13 : decode cX0_dueForS 13 = .ok (.iaload, 1) := by decide +kernel
theorem dX0_dueForS_14 : decode cX0_dueForS 14 = .ok (.iconst 2, 1) := by decide +kernel
theorem dX0_dueForS_15 : decode cX0_dueForS 15 = .ok (.iand, 1) := by decide +kernel
theorem dX0_dueForS_16 : decode cX0_dueForS 16 = .ok (.ifCond .ne 5, 3) := by decide +kernel
theorem dX0_dueForS_19 : decode cX0_dueForS 19 = .ok (.iconst (-1), 1) := by decide +kernel
theorem dX0_dueForS_20 : decode cX0_dueForS 20 = .ok (.ireturn, 1) := by decide +kernel
theorem dX0_dueForS_21 : decode cX0_dueForS 21 = .ok (.aload_n 0, 1) := by decide +kernel
theorem dX0_dueForS_22 : decode cX0_dueForS 22 = .ok (.invokevirtual 84, 3) := by decide +kernel
theorem dX0_dueForS_25 : decode cX0_dueForS 25 = .ok (.aload_n 0, 1) := by decide +kernel
theorem dX0_dueForS_26 : decode cX0_dueForS 26 = .ok (.getfield 9, 3) := by decide +kernel
theorem dX0_dueForS_29 : decode cX0_dueForS 29 = .ok (.iconst 1, 1) := by decide +kernel
theorem dX0_dueForS_30 : decode cX0_dueForS 30 = .ok (.iaload, 1) := by decide +kernel
theorem dX0_dueForS_31 : decode cX0_dueForS 31 = .ok (.iand, 1) := by decide +kernel
theorem dX0_dueForS_32 : decode cX0_dueForS 32 = .ok (.istore_n 1, 1) := by decide +kernel
theorem dX0_dueForS_33 : decode cX0_dueForS 33 = .ok (.aload_n 0, 1) := by decide +kernel
theorem dX0_dueForS_34 : decode cX0_dueForS 34 = .ok (.getfield 9, 3) := by decide +kernel
theorem dX0_dueForS_37 : decode cX0_dueForS 37 = .ok (.bipush 24, 2) := by decide +kernel
theorem dX0_dueForS_39 : decode cX0_dueForS 39 = .ok (.iaload, 1) := by decide +kernel
theorem dX0_dueForS_40 : decode cX0_dueForS 40 = .ok (.aload_n 0, 1) := by decide +kernel
theorem dX0_dueForS_41 : decode cX0_dueForS 41 = .ok (.getfield 9, 3) := by decide +kernel
theorem dX0_dueForS_44 : decode cX0_dueForS 44 = .ok (.bipush 21, 2) := by decide +kernel
theorem dX0_dueForS_46 : decode cX0_dueForS 46 = .ok (.iaload, 1) := by decide +kernel
theorem dX0_dueForS_47 : decode cX0_dueForS 47 = .ok (.iand, 1) := by decide +kernel
theorem dX0_dueForS_48 : decode cX0_dueForS 48 = .ok (.aload_n 0, 1) := by decide +kernel
theorem dX0_dueForS_49 : decode cX0_dueForS 49 = .ok (.getfield 9, 3) := by decide +kernel
theorem dX0_dueForS_52 : decode cX0_dueForS 52 = .ok (.bipush 20, 2) := by decide +kernel
theorem dX0_dueForS_54 : decode cX0_dueForS 54 = .ok (.iaload, 1) := by decide +kernel
theorem dX0_dueForS_55 : decode cX0_dueForS 55 = .ok (.iconst (-1), 1) := by decide +kernel
theorem dX0_dueForS_56 : decode cX0_dueForS 56 = .ok (.ixor, 1) := by decide +kernel
theorem dX0_dueForS_57 : decode cX0_dueForS 57 = .ok (.iand, 1) := by decide +kernel
theorem dX0_dueForS_58 : decode cX0_dueForS 58 = .ok (.istore_n 2, 1) := by decide +kernel
theorem dX0_dueForS_59 : decode cX0_dueForS 59 = .ok (.getstatic 94, 3) := by decide +kernel
theorem dX0_dueForS_62 : decode cX0_dueForS 62 = .ok (.iload_n 1, 1) := by decide +kernel
theorem dX0_dueForS_63 : decode cX0_dueForS 63 = .ok (.iload_n 2, 1) := by decide +kernel
theorem dX0_dueForS_64 : decode cX0_dueForS 64 = .ok (.ior, 1) := by decide +kernel
theorem dX0_dueForS_65 : decode cX0_dueForS 65 = .ok (.invokestatic 97, 3) := by decide +kernel
theorem dX0_dueForS_68 : decode cX0_dueForS 68 = .ok (.ireturn, 1) := by decide +kernel
set_option maxRecDepth 20000 in
theorem ggX0_dueForVs_X0_firstOf : GoodIn wsX0_dueForVs wsX0_firstOf := goodIn_r _ [7] (by decide +kernel) (by decide +kernel)
set_option maxRecDepth 20000 in
theorem gX0_dueForVs_X0_firstOf : GoodIn wsX0_dueForVs (va_wsS RX0 97 yX0_firstOf wsX0_firstOf) := goodIn_app (goodIn_of _ (by decide +kernel)) ggX0_dueForVs_X0_firstOf
theorem dX0_dueForVs_0 : decode cX0_dueForVs 0 = .ok (.aload_n 0, 1) := by decide +kernel
theorem dX0_dueForVs_1 : decode cX0_dueForVs 1 = .ok (.getfield 16, 3) := by decide +kernel
theorem dX0_dueForVs_4 : decode cX0_dueForVs 4 = .ok (.iconst 2, 1) := by decide +kernel
theorem dX0_dueForVs_5 : decode cX0_dueForVs 5 = .ok (.if_icmp .eq 23, 3) := by decide +kernel
theorem dX0_dueForVs_8 : decode cX0_dueForVs 8 = .ok (.aload_n 0, 1) := by decide +kernel
theorem dX0_dueForVs_9 : decode cX0_dueForVs 9 = .ok (.getfield 16, 3) := by decide +kernel
theorem dX0_dueForVs_12 : decode cX0_dueForVs 12 = .ok (.iconst 3, 1) := by decide +kernel
theorem dX0_dueForVs_13 : decode cX0_dueForVs 13 = .ok (.if_icmp .ne 19, 3) := by decide +kernel
theorem dX0_dueForVs_16 : decode cX0_dueForVs 16 = .ok (.aload_n 0, 1) := by decide +kernel
theorem dX0_dueForVs_17 : decode cX0_dueForVs 17 = .ok (.getfield 9, 3) := by decide +kernel
theorem dX0_dueForVs_20 : decode cX0_dueForVs 20 = .ok (.bipush 9, 2) := by decide +kernel
theorem dX0_dueForVs_22 : decode cX0_dueForVs 22 = .ok (.iaload, 1) := by decide +kernel
theorem dX0_dueForVs_23 : decode cX0_dueForVs 23 = .ok (.iconst 2, 1) := by decide +kernel
theorem dX0_dueForVs_24 : decode cX0_dueForVs 24 = .ok (.iand, 1) := by decide +kernel
theorem dX0_dueForVs_25 : decode cX0_dueForVs 25 = .ok (.ifCond .eq 7, 3) := by decide +kernel
theorem dX0_dueForVs_28 : decode cX0_dueForVs 28 = .ok (.iconst 1, 1) := by decide +kernel
theorem dX0_dueForVs_29 : decode cX0_dueForVs 29 = .ok (.goto 4, 3) := by decide +kernel
theorem dX0_dueForVs_32 : decode cX0_dueForVs 32 = .ok (.iconst 0, 1) := by decide +kernel
theorem dX0_dueForVs_33 : decode cX0_dueForVs 33 = .ok (.istore_n 1, 1) := by decide +kernel
theorem dX0_dueForVs_34 : decode cX0_dueForVs 34 = .ok (.iload_n 1, 1) := by decide +kernel
theorem dX0_dueForVs_35 : decode cX0_dueForVs 35 = .ok (.ifCond .ne 5, 3) := by decide +kernel
theorem dX0_dueForVs_38 : decode cX0_dueForVs 38 = .ok (.iconst (-1), 1) := by decide +kernel
theorem dX0_dueForVs_39 : decode cX0_dueForVs 39 = .ok (.ireturn, 1) := by decide +kernel
theorem dX0_dueForVs_40 : decode cX0_dueForVs 40 = .ok (.getstatic 101, 3) := by decide +kernel
theorem dX0_dueForVs_43 : decode cX0_dueForVs 43 = .ok (.aload_n 0, 1) := by decide +kernel
theorem dX0_dueForVs_44 : decode cX0_dueForVs 44 = .ok (.getfield 9, 3) := by decide +kernel
theorem dX0_dueForVs_47 : decode cX0_dueForVs 47 = .ok (.bipush 24, 2) := by decide +kernel
theorem dX0_dueForVs_49 : decode cX0_dueForVs 49 = .ok (.iaload, 1) := by decide +kernel
theorem dX0_dueForVs_50 : decode cX0_dueForVs 50 = .ok (.aload_n 0, 1) := by decide +kernel
theorem dX0_dueForVs_51 : decode cX0_dueForVs 51 = .ok (.getfield 9, 3) := by decide +kernel
theorem dX0_dueForVs_54 : decode cX0_dueForVs 54 = .ok (.bipush 21, 2) := by decide +kernel
theorem dX0_dueForVs_56 : decode cX0_dueForVs 56 = .ok (.iaload, 1) := by decide +kernel
theorem dX0_dueForVs_57 : decode cX0_dueForVs 57 = .ok (.iand, 1) := by decide +kernel
theorem dX0_dueForVs_58 : decode cX0_dueForVs 58 = .ok (.aload_n 0, 1) := by decide +kernel
theorem dX0_dueForVs_59 : decode cX0_dueForVs 59 = .ok (.getfield 9, 3) := by decide +kernel
theorem dX0_dueForVs_62 : decode cX0_dueForVs 62 = .ok (.bipush 20, 2) := by decide +kernel
theorem dX0_dueForVs_64 : decode cX0_dueForVs 64 = .ok (.iaload, 1) := by decide +kernel
theorem dX0_dueForVs_65 : decode cX0_dueForVs 65 = .ok (.iand, 1) := by decide +kernel
theorem dX0_dueForVs_66 : decode cX0_dueForVs 66 = .ok (.invokestatic 97, 3) := by decide +kernel
theorem dX0_dueForVs_69 : decode cX0_dueForVs 69 = .ok (.istore_n 2, 1) := by decide +kernel
theorem dX0_dueForVs_70 : decode cX0_dueForVs 70 = .ok (.iload_n 2, 1) := by decide +kernel
theorem dX0_dueForVs_71 : decode cX0_dueForVs 71 = .ok (.iconst (-1), 1) := by decide +kernel
theorem dX0_dueForVs_72 : decode cX0_dueForVs 72 = .ok (.if_icmp .ne 7, 3) := by decide +kernel
theorem dX0_dueForVs_75 : decode cX0_dueForVs 75 = .ok (.iconst (-1), 1) := by decide +kernel
theorem dX0_dueForVs_76 : decode cX0_dueForVs 76 = .ok (.goto 7, 3) := by decide +kernel
theorem dX0_dueForVs_79 : decode cX0_dueForVs 79 = .ok (.iload_n 2, 1) := by decide +kernel
theorem dX0_dueForVs_80 : decode cX0_dueForVs 80 = .ok (.bipush 99, 2) := by decide +kernel
theorem dX0_dueForVs_82 : decode cX0_dueForVs 82 = .ok (.iadd, 1) := by decide +kernel
theorem dX0_dueForVs_83 : decode cX0_dueForVs 83 = .ok (.ireturn, 1) := by decide +kernel
theorem dX0_firstOf_0 : decode cX0_firstOf 0 = .ok (.iconst 0, 1) := by decide +kernel
theorem dX0_firstOf_1 : decode cX0_firstOf 1 = .ok (.istore_n 2, 1) := by decide +kernel
theorem dX0_firstOf_2 : decode cX0_firstOf 2 = .ok (.iload_n 2, 1) := by decide +kernel
theorem dX0_firstOf_3 : decode cX0_firstOf 3 = .ok (.aload_n 0, 1) := by decide +kernel
theorem dX0_firstOf_4 : decode cX0_firstOf 4 = .ok (.arraylength, 1) := by decide +kernel
theorem dX0_firstOf_5 : decode cX0_firstOf 5 = .ok (.if_icmp .ge 23, 3) := by decide +kernel
theorem dX0_firstOf_8 : decode cX0_firstOf 8 = .ok (.iload_n 1, 1) := by decide +kernel
theorem dX0_firstOf_9 : decode cX0_firstOf 9 = .ok (.aload_n 0, 1) := by decide +kernel
theorem dX0_firstOf_10 : decode cX0_firstOf 10 = .ok (.iload_n 2, 1) := by decide +kernel
theorem dX0_firstOf_11 : decode cX0_firstOf 11 = .ok (.iaload, 1) := by decide +kernel
theorem dX0_firstOf_12 : decode cX0_firstOf 12 = .ok (.iushr, 1) := by decide +kernel
theorem dX0_firstOf_13 : decode cX0_firstOf 13 = .ok (.iconst 1, 1) := by decide +kernel
theorem dX0_firstOf_14 : decode cX0_firstOf 14 = .ok (.iand, 1) := by decide +kernel
theorem dX0_firstOf_15 : decode cX0_firstOf 15 = .ok (.ifCond .eq 7, 3) := by decide +kernel
theorem dX0_firstOf_18 : decode cX0_firstOf 18 = .ok (.aload_n 0, 1) := by decide +kernel
theorem dX0_firstOf_19 : decode cX0_firstOf 19 = .ok (.iload_n 2, 1) := by decide +kernel
theorem dX0_firstOf_20 : decode cX0_firstOf 20 = .ok (.iaload, 1) := by decide +kernel
theorem dX0_firstOf_21 : decode cX0_firstOf 21 = .ok (.ireturn, 1) := by decide +kernel
theorem dX0_firstOf_22 : decode cX0_firstOf 22 = .ok (.iinc 2 1, 3) := by decide +kernel
theorem dX0_firstOf_25 : decode cX0_firstOf 25 = .ok (.goto (-23), 3) := by decide +kernel
theorem dX0_firstOf_28 : decode cX0_firstOf 28 = .ok (.iconst (-1), 1) := by decide +kernel
theorem dX0_firstOf_29 : decode cX0_firstOf 29 = .ok (.ireturn, 1) := by decide +kernel
set_option maxRecDepth 20000 in
theorem ggX1_init_X1_begin : GoodIn wsX1_init wsX1_begin := goodIn_r _ [10, 5, 11, 12, 13, 14, 15, 16, 17, 18, 19, 20, 21, 22] (by decide +kernel) (by decide +kernel)
set_option maxRecDepth 20000 in
theorem gX1_init_X1_begin : GoodIn wsX1_init (wsV RX1 13 RX1 yX1_begin wsX1_begin) := goodIn_app (goodIn_of _ (by decide +kernel)) ggX1_init_X1_begin
theorem dX1_init_0 : decode cX1_init 0 = .ok (.aload_n 0, 1) := by decide +kernel
theorem dX1_init_1 : decode cX1_init 1 = .ok (.invokespecial 1, 3) := by decide +kernel
theorem dX1_init_4 : decode cX1_init 4 = .ok (.aload_n 0, 1) := by decide +kernel
theorem dX1_init_5 : decode cX1_init 5 = .ok (.bipush 29, 2) := by decide +kernel
theorem dX1_init_7 : decode cX1_init 7 = .ok (.newarray .int, 2) := by decide +kernel
theorem dX1_init_9 : decode cX1_init 9 = .ok (.putfield 7, 3) := by decide +kernel
theorem dX1_init_12 : decode cX1_init 12 = .ok (.aload_n 0, 1) := by decide +kernel
theorem dX1_init_13 : decode cX1_init 13 = .ok (.invokevirtual 13, 3) := by decide +kernel
theorem dX1_init_16 : decode cX1_init 16 = .ok (.return_, 1) := by decide +kernel
theorem dX1_begin_0 : decode cX1_begin 0 = .ok (.iconst 0, 1) := by decide +kernel
theorem dX1_begin_1 : decode cX1_begin 1 = .ok (.istore_n 1, 1) := by decide +kernel
theorem dX1_begin_2 : decode cX1_begin 2 = .ok (.iload_n 1, 1) := by decide +kernel
theorem dX1_begin_3 : decode cX1_begin 3 = .ok (.bipush 29, 2) := by decide +kernel
theorem dX1_begin_5 : decode cX1_begin 5 = .ok (.if_icmp .ge 16, 3) := by decide +kernel
theorem dX1_begin_8 : decode cX1_begin 8 = .ok (.aload_n 0, 1) := by decide +kernel
theorem dX1_begin_9 : decode cX1_begin 9 = .ok (.getfield 7, 3) := by decide +kernel
theorem dX1_begin_12 : decode cX1_begin 12 = .ok (.iload_n 1, 1) := by decide +kernel
theorem dX1_begin_13 : decode cX1_begin 13 = .ok (.iconst 0, 1) := by decide +kernel
theorem dX1_begin_14 : decode cX1_begin 14 = .ok (.iastore, 1) := by decide +kernel
theorem dX1_begin_15 : decode cX1_begin 15 = .ok (.iinc 1 1, 3) := by decide +kernel
theorem dX1_begin_18 : decode cX1_begin 18 = .ok (.goto (-16), 3) := by decide +kernel
theorem dX1_begin_21 : decode cX1_begin 21 = .ok (.aload_n 0, 1) := by decide +kernel
theorem dX1_begin_22 : decode cX1_begin 22 = .ok (.iconst 1, 1) := by decide +kernel
theorem dX1_begin_23 : decode cX1_begin 23 = .ok (.putfield 16, 3) := by decide +kernel
theorem dX1_begin_26 : decode cX1_begin 26 = .ok (.aload_n 0, 1) := by decide +kernel
theorem dX1_begin_27 : decode cX1_begin 27 = .ok (.lconst 0, 1) := by decide +kernel
theorem dX1_begin_28 : decode cX1_begin 28 = .ok (.putfield 20, 3) := by decide +kernel
theorem dX1_begin_31 : decode cX1_begin 31 = .ok (.aload_n 0, 1) := by decide +kernel
theorem dX1_begin_32 : decode cX1_begin 32 = .ok (.ldc2_w 24, 3) := by decide +kernel
theorem dX1_begin_35 : decode cX1_begin 35 = .ok (.putfield 26, 3) := by decide +kernel
theorem dX1_begin_38 : decode cX1_begin 38 = .ok (.aload_n 0, 1) := by decide +kernel
theorem dX1_begin_39 : decode cX1_begin 39 = .ok (.iconst 0, 1) := by decide +kernel
theorem dX1_begin_40 : decode cX1_begin 40 = .ok (.putfield 29, 3) := by decide +kernel
theorem dX1_begin_43 : decode cX1_begin 43 = .ok (.aload_n 0, 1) := by decide +kernel
theorem dX1_begin_44 : decode cX1_begin 44 = .ok (.iconst 0, 1) := by decide +kernel
theorem dX1_begin_45 : decode cX1_begin 45 = .ok (.putfield 33, 3) := by decide +kernel
theorem dX1_begin_48 : decode cX1_begin 48 = .ok (.return_, 1) := by decide +kernel
theorem dX1_mode_0 : decode cX1_mode 0 = .ok (.iload_n 1, 1) := by decide +kernel
theorem dX1_mode_1 : decode cX1_mode 1 = .ok (.ifCond .lt 8, 3) := by decide +kernel
theorem dX1_mode_4 : decode cX1_mode 4 = .ok (.iload_n 1, 1) := by decide +kernel
theorem dX1_mode_5 : decode cX1_mode 5 = .ok (.iconst 3, 1) := by decide +kernel
theorem dX1_mode_6 : decode cX1_mode 6 = .ok (.if_icmp .le 5, 3) := by decide +kernel
theorem dX1_mode_9 : decode cX1_mode 9 = .ok (.iconst (-1), 1) := by decide +kernel
theorem dX1_mode_10 : decode cX1_mode 10 = .ok (.ireturn, 1) := by decide +kernel
theorem dX1_mode_11 : decode cX1_mode 11 = .ok (.aload_n 0, 1) := by decide +kernel
theorem dX1_mode_12 : decode cX1_mode 12 = .ok (.getfield 16, 3) := by decide +kernel
theorem dX1_mode_15 : decode cX1_mode 15 = .ok (.istore_n 2, 1) := by decide +kernel
theorem dX1_mode_16 : decode cX1_mode 16 = .ok (.aload_n 0, 1) := by decide +kernel
theorem dX1_mode_17 : decode cX1_mode 17 = .ok (.iload_n 1, 1) := by decide +kernel
theorem dX1_mode_18 : decode cX1_mode 18 = .ok (.putfield 16, 3) := by decide +kernel
theorem dX1_mode_21 : decode cX1_mode 21 = .ok (.iload_n 2, 1) := by decide +kernel
theorem dX1_mode_22 : decode cX1_mode 22 = .ok (.ireturn, 1) := by decide +kernel
theorem dX1_time_0 : decode cX1_time 0 = .ok (.lload_n 1, 1) := by decide +kernel
theorem dX1_time_1 : decode cX1_time 1 = .ok (.lconst 0, 1) := by decide +kernel
theorem dX1_time_2 : decode cX1_time 2 = .ok (.lcmp, 1) := by decide +kernel
theorem dX1_time_3 : decode cX1_time 3 = .ok (.ifCond .ge 7, 3) := by decide +kernel
theorem dX1_time_6 : decode cX1_time 6 = .ok (.ldc2_w 36, 3) := by decide +kernel
theorem dX1_time_9 : decode cX1_time 9 = .ok (.lreturn, 1) := by decide +kernel
theorem dX1_time_10 : decode cX1_time 10 = .ok (.aload_n 0, 1) := by decide +kernel
theorem dX1_time_11 : decode cX1_time 11 = .ok (.getfield 20, 3) := by decide +kernel
theorem dX1_time_14 : decode cX1_time 14 = .ok (.lstore_n 3, 1) := by decide +kernel
theorem dX1_time_15 : decode cX1_time 15 = .ok (.aload_n 0, 1) := by decide +kernel
theorem dX1_time_16 : decode cX1_time 16 = .ok (.lload_n 1, 1) := by decide +kernel
theorem dX1_time_17 : decode cX1_time 17 = .ok (.putfield 20, 3) := by decide +kernel
theorem dX1_time_20 : decode cX1_time 20 = .ok (.lload_n 3, 1) := by decide +kernel
theorem dX1_time_21 : decode cX1_time 21 = .ok (.lreturn, 1) := by decide +kernel
theorem dX1_alarm_0 : decode cX1_alarm 0 = .ok (.aload_n 0, 1) := by decide +kernel
theorem dX1_alarm_1 : decode cX1_alarm 1 = .ok (.getfield 26, 3) := by decide +kernel
theorem dX1_alarm_4 : decode cX1_alarm 4 = .ok (.lstore_n 3, 1) := by decide +kernel
theorem dX1_alarm_5 : decode cX1_alarm 5 = .ok (.aload_n 0, 1) := by decide +kernel
theorem dX1_alarm_6 : decode cX1_alarm 6 = .ok (.lload_n 1, 1) := by decide +kernel
theorem dX1_alarm_7 : decode cX1_alarm 7 = .ok (.lconst 0, 1) := by decide +kernel
theorem dX1_alarm_8 : decode cX1_alarm 8 = .ok (.lcmp, 1) := by decide +kernel
theorem dX1_alarm_9 : decode cX1_alarm 9 = .ok (.ifCond .ge 9, 3) := by decide +kernel
theorem dX1_alarm_12 : decode cX1_alarm 12 = .ok (.ldc2_w 24, 3) := by decide +kernel
theorem dX1_alarm_15 : decode cX1_alarm 15 = .ok (.goto 4, 3) := by decide +kernel
theorem dX1_alarm_18 : decode cX1_alarm 18 = .ok (.lload_n 1, 1) := by decide +kernel
theorem dX1_alarm_19 : decode cX1_alarm 19 = .ok (.putfield 26, 3) := by decide +kernel
theorem dX1_alarm_22 : decode cX1_alarm 22 = .ok (.lload_n 3, 1) := by decide +kernel
theorem dX1_alarm_23 : decode cX1_alarm 23 = .ok (.lreturn, 1) := by decide +kernel
theorem dX1_line_0 : decode cX1_line 0 = .ok (.aload_n 0, 1) := by decide +kernel
theorem dX1_line_1 : decode cX1_line 1 = .ok (.getfield 29, 3) := by decide +kernel
theorem dX1_line_4 : decode cX1_line 4 = .ok (.istore_n 2, 1) := by decide +kernel
theorem dX1_line_5 : decode cX1_line 5 = .ok (.aload_n 0, 1) := by decide +kernel
theorem dX1_line_6 : decode cX1_line 6 = .ok (.iload_n 1, 1) := by decide +kernel
theorem dX1_line_7 : decode cX1_line 7 = .ok (.putfield 29, 3) := by decide +kernel
theorem dX1_line_10 : decode cX1_line 10 = .ok (.iload_n 2, 1) := by decide +kernel
theorem dX1_line_11 : decode cX1_line 11 = .ok (.ireturn, 1) := by decide +kernel
theorem dX1_kindOf_0 : decode cX1_kindOf 0 = .ok (.iload_n 0, 1) := by decide +kernel
theorem dX1_kindOf_1 : decode cX1_kindOf 1 = .ok (.lookupswitch 99 #[(0, 83), (4, 85), (5, 87), (64, 89), (65, 89), (66, 89), (67, 89), (68, 89), (128, 96)], 83) := by decide +kernel
theorem dX1_kindOf_84 : decode cX1_kindOf 84 = .ok (.iconst 0, 1) := by decide +kernel
theorem dX1_kindOf_85 : decode cX1_kindOf 85 = .ok (.ireturn, 1) := by decide +kernel
theorem dX1_kindOf_86 : decode cX1_kindOf 86 = .ok (.iconst 1, 1) := by decide +kernel
theorem dX1_kindOf_87 : decode cX1_kindOf 87 = .ok (.ireturn, 1) := by decide +kernel
theorem dX1_kindOf_88 : decode cX1_kindOf 88 = .ok (.iconst 2, 1) := by decide +kernel
theorem dX1_kindOf_89 : decode cX1_kindOf 89 = .ok (.ireturn, 1) := by decide +kernel
theorem dX1_kindOf_90 : decode cX1_kindOf 90 = .ok (.iload_n 0, 1) := by decide +kernel
theorem dX1_kindOf_91 : decode cX1_kindOf 91 = .ok (.bipush 64, 2) := by decide +kernel
theorem dX1_kindOf_93 : decode cX1_kindOf 93 = .ok (.isub, 1) := by decide +kernel
theorem dX1_kindOf_94 : decode cX1_kindOf 94 = .ok (.iconst 3, 1) := by decide +kernel
theorem dX1_kindOf_95 : decode cX1_kindOf 95 = .ok (.iadd, 1) := by decide +kernel
theorem dX1_kindOf_96 : decode cX1_kindOf 96 = .ok (.ireturn, 1) := by decide +kernel
theorem dX1_kindOf_97 : decode cX1_kindOf 97 = .ok (.bipush 8, 2) := by decide +kernel
theorem dX1_kindOf_99 : decode cX1_kindOf 99 = .ok (.ireturn, 1) := by decide +kernel
theorem dX1_kindOf_100 : decode cX1_kindOf 100 = .ok (.iconst (-1), 1) := by decide +kernel
theorem dX1_kindOf_101 : decode cX1_kindOf 101 = .ok (.ireturn, 1) := by decide +kernel
theorem dX1_hyperOf_0 : decode cX1_hyperOf 0 = .ok (.iload_n 0, 1) := by decide +kernel
theorem dX1_hyperOf_1 : decode cX1_hyperOf 1 = .ok (.lookupswitch 132 #[(1536, 99), (1538, 102), (1539, 105), (1540, 108), (1603, 111), (1604, 114), (1605, 117), (1610, 120), (1664, 123), (3073, 126), (3201, 129)], 99) := by decide +kernel
theorem dX1_hyperOf_100 : decode cX1_hyperOf 100 = .ok (.bipush 18, 2) := by decide +kernel
theorem dX1_hyperOf_102 : decode cX1_hyperOf 102 = .ok (.ireturn, 1) := by decide +kernel
theorem dX1_hyperOf_103 : decode cX1_hyperOf 103 = .ok (.bipush 19, 2) := by decide +kernel
theorem dX1_hyperOf_105 : decode cX1_hyperOf 105 = .ok (.ireturn, 1) := by decide +kernel
theorem dX1_hyperOf_106 : decode cX1_hyperOf 106 = .ok (.bipush 20, 2) := by decide +kernel
theorem dX1_hyperOf_108 : decode cX1_hyperOf 108 = .ok (.ireturn, 1) := by decide +kernel
theorem dX1_hyperOf_109 : decode cX1_hyperOf 109 = .ok (.bipush 21, 2) := by decide +kernel
theorem dX1_hyperOf_111 : decode cX1_hyperOf 111 = .ok (.ireturn, 1) := by decide +kernel
theorem dX1_hyperOf_112 : decode cX1_hyperOf 112 = .ok (.bipush 22, 2) := by decide +kernel
theorem dX1_hyperOf_114 : decode cX1_hyperOf 114 = .ok (.ireturn, 1) := by decide +kernel
theorem dX1_hyperOf_115 : decode cX1_hyperOf 115 = .ok (.bipush 23, 2) := by decide +kernel
theorem dX1_hyperOf_117 : decode cX1_hyperOf 117 = .ok (.ireturn, 1) := by decide +kernel
theorem dX1_hyperOf_118 : decode cX1_hyperOf 118 = .ok (.bipush 24, 2) := by decide +kernel
theorem dX1_hyperOf_120 : decode cX1_hyperOf 120 = .ok (.ireturn, 1) := by decide +kernel
theorem dX1_hyperOf_121 : decode cX1_hyperOf 121 = .ok (.bipush 25, 2) := by decide +kernel
theorem dX1_hyperOf_123 : decode cX1_hyperOf 123 = .ok (.ireturn, 1) := by decide +kernel
theorem dX1_hyperOf_124 : decode cX1_hyperOf 124 = .ok (.bipush 26, 2) := by decide +kernel
theorem dX1_hyperOf_126 : decode cX1_hyperOf 126 = .ok (.ireturn, 1) := by decide +kernel
theorem dX1_hyperOf_127 : decode cX1_hyperOf 127 = .ok (.bipush 27, 2) := by decide +kernel
theorem dX1_hyperOf_129 : decode cX1_hyperOf 129 = .ok (.ireturn, 1) := by decide +kernel
theorem dX1_hyperOf_130 : decode cX1_hyperOf 130 = .ok (.bipush 28, 2) := by decide +kernel
theorem dX1_hyperOf_132 : decode cX1_hyperOf 132 = .ok (.ireturn, 1) := by decide +kernel
theorem dX1_hyperOf_133 : decode cX1_hyperOf 133 = .ok (.iconst (-1), 1) := by decide +kernel
theorem dX1_hyperOf_134 : decode cX1_hyperOf 134 = .ok (.ireturn, 1) := by decide +kernel
set_option maxRecDepth 20000 in
theorem ggX1_placeOf_X1_hyperOf : GoodIn wsX1_placeOf wsX1_hyperOf := goodIn_r _ [4] (by decide +kernel) (by decide +kernel)
set_option maxRecDepth 20000 in
theorem gX1_placeOf_X1_hyperOf : GoodIn wsX1_placeOf (va_wsS RX1 38 yX1_hyperOf wsX1_hyperOf) := goodIn_app (goodIn_of _ (by decide +kernel)) ggX1_placeOf_X1_hyperOf
set_option maxRecDepth 20000 in
theorem ggX1_placeOf_X1_kindOf : GoodIn wsX1_placeOf wsX1_kindOf := goodIn_r _ [7] (by decide +kernel) (by decide +kernel)
set_option maxRecDepth 20000 in
theorem gX1_placeOf_X1_kindOf : GoodIn wsX1_placeOf (va_wsS RX1 42 yX1_kindOf wsX1_kindOf) := goodIn_app (goodIn_of _ (by decide +kernel)) ggX1_placeOf_X1_kindOf
theorem dX1_placeOf_0 : decode cX1_placeOf 0 = .ok (.iload_n 0, 1) := by decide +kernel
theorem dX1_placeOf_1 : decode cX1_placeOf 1 = .ok (.bipush 8, 2) := by decide +kernel
theorem dX1_placeOf_3 : decode cX1_placeOf 3 = .ok (.ishr, 1) := by decide +kernel
theorem dX1_placeOf_4 : decode cX1_placeOf 4 = .ok (.istore_n 1, 1) := by decide +kernel
theorem dX1_placeOf_5 : decode cX1_placeOf 5 = .ok (.iload_n 1, 1) := by decide +kernel
theorem dX1_placeOf_6 : decode cX1_placeOf 6 = .ok (.iconst 1, 1) := by decide +kernel
theorem dX1_placeOf_7 : decode cX1_placeOf 7 = .ok (.if_icmp .eq 13, 3) := by decide +kernel
theorem dX1_placeOf_10 : decode cX1_placeOf 10 = .ok (.iload_n 1, 1) := by decide +kernel
theorem dX1_placeOf_11 : decode cX1_placeOf 11 = .ok (.iconst 2, 1) := by decide +kernel
theorem dX1_placeOf_12 : decode cX1_placeOf 12 = .ok (.if_icmp .eq 8, 3) := by decide +kernel
theorem dX1_placeOf_15 : decode cX1_placeOf 15 = .ok (.iload_n 0, 1) := by decide +kernel
theorem dX1_placeOf_16 : decode cX1_placeOf 16 = .ok (.invokestatic 38, 3) := by decide +kernel
theorem dX1_placeOf_19 : decode cX1_placeOf 19 = .ok (.ireturn, 1) := by decide +kernel
theorem dX1_placeOf_20 : decode cX1_placeOf 20 = .ok (.iload_n 0, 1) := by decide +kernel
theorem dX1_placeOf_21 : decode cX1_placeOf 21 = .ok (.sipush 255, 3) := by decide +kernel
theorem dX1_placeOf_24 : decode cX1_placeOf 24 = .ok (.iand, 1) := by decide +kernel
theorem dX1_placeOf_25 : decode cX1_placeOf 25 = .ok (.invokestatic 42, 3) := by decide +kernel
theorem dX1_placeOf_28 : decode cX1_placeOf 28 = .ok (.istore_n 2, 1) := by decide +kernel
theorem dX1_placeOf_29 : decode cX1_placeOf 29 = .ok (.iload_n 2, 1) := by decide +kernel
theorem dX1_placeOf_30 : decode cX1_placeOf 30 = .ok (.iconst (-1), 1) := by decide +kernel
theorem dX1_placeOf_31 : decode cX1_placeOf 31 = .ok (.if_icmp .ne 7, 3) := by decide +kernel
theorem dX1_placeOf_34 : decode cX1_placeOf 34 = .ok (.iconst (-1), 1) := by decide +kernel
theorem dX1_placeOf_35 : decode cX1_placeOf 35 = .ok (.goto 16, 3) := by decide +kernel
theorem dX1_placeOf_38 : decode cX1_placeOf 38 = .ok (.iload_n 1, 1) := by decide +kernel
theorem dX1_placeOf_39 : decode cX1_placeOf 39 = .ok (.iconst 1, 1) := by decide +kernel
theorem dX1_placeOf_40 : decode cX1_placeOf 40 = .ok (.if_icmp .ne 7, 3) := by decide +kernel
theorem dX1_placeOf_43 : decode cX1_placeOf 43 = .ok (.iload_n 2, 1) := by decide +kernel
theorem dX1_placeOf_44 : decode cX1_placeOf 44 = .ok (.goto 7, 3) := by decide +kernel
theorem dX1_placeOf_47 : decode cX1_placeOf 47 = .ok (.bipush 9, 2) := by decide +kernel
theorem dX1_placeOf_49 : decode cX1_placeOf 49 = .ok (.iload_n 2, 1) := by decide +kernel
theorem dX1_placeOf_50 : decode cX1_placeOf 50 = .ok (.iadd, 1) := by decide +kernel
theorem dX1_placeOf_51 : decode cX1_placeOf 51 = .ok (.ireturn, 1) := by decide +kernel
theorem dX1_has_0 : decode cX1_has 0 = .ok (.aload_n 0, 1) := by decide +kernel
theorem dX1_has_1 : decode cX1_has 1 = .ok (.getfield 7, 3) := by decide +kernel
theorem dX1_has_4 : decode cX1_has 4 = .ok (.iload_n 1, 1) := by decide +kernel
theorem dX1_has_5 : decode cX1_has 5 = .ok (.iaload, 1) := by decide +kernel
theorem dX1_has_6 : decode cX1_has 6 = .ok (.iload_n 2, 1) := by decide +kernel
theorem dX1_has_7 : decode cX1_has 7 = .ok (.ishr, 1) := by decide +kernel
theorem dX1_has_8 : decode cX1_has 8 = .ok (.iconst 1, 1) := by decide +kernel
theorem dX1_has_9 : decode cX1_has 9 = .ok (.iand, 1) := by decide +kernel
theorem dX1_has_10 : decode cX1_has 10 = .ok (.iconst 1, 1) := by decide +kernel
theorem dX1_has_11 : decode cX1_has 11 = .ok (.if_icmp .ne 7, 3) := by decide +kernel
theorem dX1_has_14 : decode cX1_has 14 = .ok (.iconst 1, 1) := by decide +kernel
theorem dX1_has_15 : decode cX1_has 15 = .ok (.goto 4, 3) := by decide +kernel
theorem dX1_has_18 : decode cX1_has 18 = .ok (.iconst 0, 1) := by decide +kernel
theorem dX1_has_19 : decode cX1_has 19 = .ok (.ireturn, 1) := by decide +kernel
theorem dX1_tells_0 : decode cX1_tells 0 = .ok (.iload_n 1, 1) := by decide +kernel
theorem dX1_tells_1 : decode cX1_tells 1 = .ok (.lookupswitch 160 #[(7, 59), (10, 101), (16, 119), (23, 137), (27, 145), (28, 151)], 59) := by decide +kernel
theorem dX1_tells_60 : decode cX1_tells 60 = .ok (.aload_n 0, 1) := by decide +kernel
theorem dX1_tells_61 : decode cX1_tells 61 = .ok (.getfield 7, 3) := by decide +kernel
theorem dX1_tells_64 : decode cX1_tells 64 = .ok (.bipush 7, 2) := by decide +kernel
theorem dX1_tells_66 : decode cX1_tells 66 = .ok (.iaload, 1) := by decide +kernel
theorem dX1_tells_67 : decode cX1_tells 67 = .ok (.aload_n 0, 1) := by decide +kernel
theorem dX1_tells_68 : decode cX1_tells 68 = .ok (.getfield 20, 3) := by decide +kernel
theorem dX1_tells_71 : decode cX1_tells 71 = .ok (.aload_n 0, 1) := by decide +kernel
theorem dX1_tells_72 : decode cX1_tells 72 = .ok (.getfield 26, 3) := by decide +kernel
theorem dX1_tells_75 : decode cX1_tells 75 = .ok (.lcmp, 1) := by decide +kernel
theorem dX1_tells_76 : decode cX1_tells 76 = .ok (.ifCond .lt 8, 3) := by decide +kernel
theorem dX1_tells_79 : decode cX1_tells 79 = .ok (.bipush 32, 2) := by decide +kernel
theorem dX1_tells_81 : decode cX1_tells 81 = .ok (.goto 4, 3) := by decide +kernel
theorem dX1_tells_84 : decode cX1_tells 84 = .ok (.iconst 0, 1) := by decide +kernel
theorem dX1_tells_85 : decode cX1_tells 85 = .ok (.ior, 1) := by decide +kernel
theorem dX1_tells_86 : decode cX1_tells 86 = .ok (.aload_n 0, 1) := by decide +kernel
theorem dX1_tells_87 : decode cX1_tells 87 = .ok (.getfield 29, 3) := by decide +kernel
theorem dX1_tells_90 : decode cX1_tells 90 = .ok (.ifCond .eq 9, 3) := by decide +kernel
theorem dX1_tells_93 : decode cX1_tells 93 = .ok (.sipush 512, 3) := by decide +kernel
theorem dX1_tells_96 : decode cX1_tells 96 = .ok (.goto 4, 3) := by decide +kernel
theorem dX1_tells_99 : decode cX1_tells 99 = .ok (.iconst 0, 1) := by decide +kernel
theorem dX1_tells_100 : decode cX1_tells 100 = .ok (.ior, 1) := by decide +kernel
theorem dX1_tells_101 : decode cX1_tells 101 = .ok (.ireturn, 1) := by decide +kernel
theorem dX1_tells_102 : decode cX1_tells 102 = .ok (.aload_n 0, 1) := by decide +kernel
theorem dX1_tells_103 : decode cX1_tells 103 = .ok (.getfield 7, 3) := by decide +kernel
theorem dX1_tells_106 : decode cX1_tells 106 = .ok (.bipush 21, 2) := by decide +kernel
theorem dX1_tells_108 : decode cX1_tells 108 = .ok (.iaload, 1) := by decide +kernel
theorem dX1_tells_109 : decode cX1_tells 109 = .ok (.aload_n 0, 1) := by decide +kernel
theorem dX1_tells_110 : decode cX1_tells 110 = .ok (.getfield 7, 3) := by decide +kernel
theorem dX1_tells_113 : decode cX1_tells 113 = .ok (.bipush 20, 2) := by decide +kernel
theorem dX1_tells_115 : decode cX1_tells 115 = .ok (.iaload, 1) := by decide +kernel
theorem dX1_tells_116 : decode cX1_tells 116 = .ok (.iand, 1) := by decide +kernel
theorem dX1_tells_117 : decode cX1_tells 117 = .ok (.iconst 1, 1) := by decide +kernel
theorem dX1_tells_118 : decode cX1_tells 118 = .ok (.ishr, 1) := by decide +kernel
theorem dX1_tells_119 : decode cX1_tells 119 = .ok (.ireturn, 1) := by decide +kernel
theorem dX1_tells_120 : decode cX1_tells 120 = .ok (.aload_n 0, 1) := by decide +kernel
theorem dX1_tells_121 : decode cX1_tells 121 = .ok (.getfield 7, 3) := by decide +kernel
theorem dX1_tells_124 : decode cX1_tells 124 = .ok (.bipush 24, 2) := by decide +kernel
theorem dX1_tells_126 : decode cX1_tells 126 = .ok (.iaload, 1) := by decide +kernel
theorem dX1_tells_127 : decode cX1_tells 127 = .ok (.aload_n 0, 1) := by decide +kernel
theorem dX1_tells_128 : decode cX1_tells 128 = .ok (.getfield 7, 3) := by decide +kernel
theorem dX1_tells_131 : decode cX1_tells 131 = .ok (.bipush 20, 2) := by decide +kernel
theorem dX1_tells_133 : decode cX1_tells 133 = .ok (.iaload, 1) := by decide +kernel
theorem dX1_tells_134 : decode cX1_tells 134 = .ok (.iand, 1) := by decide +kernel
theorem dX1_tells_135 : decode cX1_tells 135 = .ok (.iconst 1, 1) := by decide +kernel
theorem dX1_tells_136 : decode cX1_tells 136 = .ok (.ishr, 1) := by decide +kernel
theorem dX1_tells_137 : decode cX1_tells 137 = .ok (.ireturn, 1) := by decide +kernel
theorem dX1_tells_138 : decode cX1_tells 138 = .ok (.aload_n 0, 1) := by decide +kernel
theorem dX1_tells_139 : decode cX1_tells 139 = .ok (.getfield 7, 3) := by decide +kernel
theorem dX1_tells_142 : decode cX1_tells 142 = .ok (.bipush 24, 2) := by decide +kernel
theorem dX1_tells_144 : decode cX1_tells 144 = .ok (.iaload, 1) := by decide +kernel
theorem dX1_tells_145 : decode cX1_tells 145 = .ok (.ireturn, 1) := by decide +kernel
theorem dX1_tells_146 : decode cX1_tells 146 = .ok (.aload_n 0, 1) := by decide +kernel
theorem dX1_tells_147 : decode cX1_tells 147 = .ok (.getfield 20, 3) := by decide +kernel
theorem dX1_tells_150 : decode cX1_tells 150 = .ok (.l2i, 1) := by decide +kernel
theorem dX1_tells_151 : decode cX1_tells 151 = .ok (.ireturn, 1) := by decide +kernel
theorem dX1_tells_152 : decode cX1_tells 152 = .ok (.aload_n 0, 1) := by decide +kernel
theorem dX1_tells_153 : decode cX1_tells 153 = .ok (.getfield 20, 3) := by decide +kernel
theorem dX1_tells_156 : decode cX1_tells 156 = .ok (.bipush 32, 2) := by decide +kernel
theorem dX1_tells_158 : decode cX1_tells 158 = .ok (.lshr, 1) := by decide +kernel
theorem dX1_tells_159 : decode cX1_tells 159 = .ok (.l2i, 1) := by decide +kernel
theorem dX1_tells_160 : decode cX1_tells 160 = .ok (.ireturn, 1) := by decide +kernel
theorem dX1_tells_161 : decode cX1_tells 161 = .ok (.aload_n 0, 1) := by decide +kernel
theorem dX1_tells_162 : decode cX1_tells 162 = .ok (.getfield 7, 3) := by decide +kernel
theorem dX1_tells_165 : decode cX1_tells 165 = .ok (.iload_n 1, 1) := by decide +kernel
theorem dX1_tells_166 : decode cX1_tells 166 = .ok (.iaload, 1) := by decide +kernel
theorem dX1_tells_167 : decode cX1_tells 167 = .ok (.ireturn, 1) := by decide +kernel
theorem dX1_put_0 : decode cX1_put 0 = .ok (.aload_n 0, 1) := by decide +kernel
theorem dX1_put_1 : decode cX1_put 1 = .ok (.getfield 7, 3) := by decide +kernel
theorem dX1_put_4 : decode cX1_put 4 = .ok (.iload_n 1, 1) := by decide +kernel
theorem dX1_put_5 : decode cX1_put 5 = .ok (.aload_n 0, 1) := by decide +kernel
theorem dX1_put_6 : decode cX1_put 6 = .ok (.getfield 7, 3) := by decide +kernel
theorem dX1_put_9 : decode cX1_put 9 = .ok (.iload_n 1, 1) := by decide +kernel
theorem dX1_put_10 : decode cX1_put 10 = .ok (.iaload, 1) := by decide +kernel
theorem dX1_put_11 : decode cX1_put 11 = .ok (.iload_n 2, 1) := by decide +kernel
theorem dX1_put_12 : decode cX1_put 12 = .ok (.iconst (-1), 1) := by decide +kernel
theorem dX1_put_13 : decode cX1_put 13 = .ok (.ixor, 1) := by decide +kernel
theorem dX1_put_14 : decode cX1_put 14 = .ok (.iand, 1) := by decide +kernel
theorem dX1_put_15 : decode cX1_put 15 = .ok (.iload_n 3, 1) := by decide +kernel
theorem dX1_put_16 : decode cX1_put 16 = .ok (.iload_n 2, 1) := by decide +kernel
theorem dX1_put_17 : decode cX1_put 17 = .ok (.iand, 1) := by decide +kernel
theorem dX1_put_18 : decode cX1_put 18 = .ok (.ior, 1) := by decide +kernel
theorem dX1_put_19 : decode cX1_put 19 = .ok (.iastore, 1) := by decide +kernel
theorem dX1_put_20 : decode cX1_put 20 = .ok (.return_, 1) := by decide +kernel
theorem dX1_maskOf_0 : decode cX1_maskOf 0 = .ok (.iload_n 0, 1) := by decide +kernel
theorem dX1_maskOf_1 : decode cX1_maskOf 1 = .ok (.tableswitch 154 0 26 #[123, 126, 130, 154, 133, 154, 154, 139, 136, 123, 154, 130, 154, 133, 154, 154, 154, 136, 141, 144, 147, 147, 154, 154, 147, 154, 151], 123) := by decide +kernel
theorem dX1_maskOf_124 : decode cX1_maskOf 124 = .ok (.ldc 45, 2) := by decide +kernel
theorem dX1_maskOf_126 : decode cX1_maskOf 126 = .ok (.ireturn, 1) := by decide +kernel
theorem dX1_maskOf_127 : decode cX1_maskOf 127 = .ok (.sipush 546, 3) := by decide +kernel
theorem dX1_maskOf_130 : decode cX1_maskOf 130 = .ok (.ireturn, 1) := by decide +kernel
theorem dX1_maskOf_131 : decode cX1_maskOf 131 = .ok (.bipush (-3), 2) := by decide +kernel
theorem dX1_maskOf_133 : decode cX1_maskOf 133 = .ok (.ireturn, 1) := by decide +kernel
theorem dX1_maskOf_134 : decode cX1_maskOf 134 = .ok (.bipush (-4), 2) := by decide +kernel
theorem dX1_maskOf_136 : decode cX1_maskOf 136 = .ok (.ireturn, 1) := by decide +kernel
theorem dX1_maskOf_137 : decode cX1_maskOf 137 = .ok (.ldc 46, 2) := by decide +kernel
theorem dX1_maskOf_139 : decode cX1_maskOf 139 = .ok (.ireturn, 1) := by decide +kernel
theorem dX1_maskOf_140 : decode cX1_maskOf 140 = .ok (.iconst 2, 1) := by decide +kernel
theorem dX1_maskOf_141 : decode cX1_maskOf 141 = .ok (.ireturn, 1) := by decide +kernel
theorem dX1_maskOf_142 : decode cX1_maskOf 142 = .ok (.ldc 47, 2) := by decide +kernel
theorem dX1_maskOf_144 : decode cX1_maskOf 144 = .ok (.ireturn, 1) := by decide +kernel
theorem dX1_maskOf_145 : decode cX1_maskOf 145 = .ok (.ldc 48, 2) := by decide +kernel
theorem dX1_maskOf_147 : decode cX1_maskOf 147 = .ok (.ireturn, 1) := by decide +kernel
theorem dX1_maskOf_148 : decode cX1_maskOf 148 = .ok (.sipush 1092, 3) := by decide +kernel
theorem dX1_maskOf_151 : decode cX1_maskOf 151 = .ok (.ireturn, 1) := by decide +kernel
theorem dX1_maskOf_152 : decode cX1_maskOf 152 = .ok (.ldc 49, 2) := by decide +kernel
theorem dX1_maskOf_154 : decode cX1_maskOf 154 = .ok (.ireturn, 1) := by decide +kernel
theorem dX1_maskOf_155 : decode cX1_maskOf 155 = .ok (.iconst (-1), 1) := by decide +kernel
theorem dX1_maskOf_156 : decode cX1_maskOf 156 = .ok (.ireturn, 1) := by decide +kernel
set_option maxRecDepth 20000 in
theorem ggX1_write_X1_put : GoodIn wsX1_write wsX1_put := goodIn_r _ [6, 1, 15, 16, 17, 18, 19, 20] (by decide +kernel) (by decide +kernel)
set_option maxRecDepth 20000 in
theorem gX1_write_X1_put : GoodIn wsX1_write (wsV RX1 50 RX1 yX1_put wsX1_put) := goodIn_app (goodIn_of _ (by decide +kernel)) ggX1_write_X1_put
set_option maxRecDepth 20000 in
theorem ggX1_write_X1_maskOf : GoodIn wsX1_write wsX1_maskOf := goodIn_r _ [9, 10, 11, 12, 13, 14] (by decide +kernel) (by decide +kernel)
set_option maxRecDepth 20000 in
theorem gX1_write_X1_maskOf : GoodIn wsX1_write (va_wsS RX1 54 yX1_maskOf wsX1_maskOf) := goodIn_app (goodIn_of _ (by decide +kernel)) ggX1_write_X1_maskOf
theorem dX1_write_0 : decode cX1_write 0 = .ok (.iload_n 1, 1) := by decide +kernel
theorem dX1_write_1 : decode cX1_write 1 = .ok (.bipush 10, 2) := by decide +kernel
theorem dX1_write_3 : decode cX1_write 3 = .ok (.if_icmp .ne 26, 3) := by decide +kernel
theorem dX1_write_6 : decode cX1_write 6 = .ok (.aload_n 0, 1) := by decide +kernel
theorem dX1_write_7 : decode cX1_write 7 = .ok (.bipush 21, 2) := by decide +kernel
theorem dX1_write_9 : decode cX1_write 9 = .ok (.aload_n 0, 1) := by decide +kernel
theorem dX1_write_10 : decode cX1_write 10 = .ok (.getfield 7, 3) := by decide +kernel
theorem dX1_write_13 : decode cX1_write 13 = .ok (.bipush 20, 2) := by decide +kernel
theorem dX1_write_15 : decode cX1_write 15 = .ok (.iaload, 1) := by decide +kernel
theorem dX1_write_16 : decode cX1_write 16 = .ok (.sipush 1092, 3) := by decide +kernel
theorem dX1_write_19 : decode cX1_write 19 = .ok (.iand, 1) := by decide +kernel
theorem dX1_write_20 : decode cX1_write 20 = .ok (.iload_n 2, 1) := by decide +kernel
theorem dX1_write_21 : decode cX1_write 21 = .ok (.iconst 1, 1) := by decide +kernel
theorem dX1_write_22 : decode cX1_write 22 = .ok (.ishl, 1) := by decide +kernel
theorem dX1_write_23 : decode cX1_write 23 = .ok (.invokevirtual 50, 3) := by decide +kernel
theorem dX1_write_26 : decode cX1_write 26 = .ok (.goto 59, 3) := by decide +kernel
theorem dX1_write_29 : decode cX1_write 29 = .ok (.iload_n 1, 1) := by decide +kernel
theorem dX1_write_30 : decode cX1_write 30 = .ok (.bipush 16, 2) := by decide +kernel
theorem dX1_write_32 : decode cX1_write 32 = .ok (.if_icmp .ne 24, 3) := by decide +kernel
theorem dX1_write_35 : decode cX1_write 35 = .ok (.aload_n 0, 1) := by decide +kernel
theorem dX1_write_36 : decode cX1_write 36 = .ok (.bipush 24, 2) := by decide +kernel
theorem dX1_write_38 : decode cX1_write 38 = .ok (.aload_n 0, 1) := by decide +kernel
theorem dX1_write_39 : decode cX1_write 39 = .ok (.getfield 7, 3) := by decide +kernel
theorem dX1_write_42 : decode cX1_write 42 = .ok (.bipush 20, 2) := by decide +kernel
theorem dX1_write_44 : decode cX1_write 44 = .ok (.iaload, 1) := by decide +kernel
theorem dX1_write_45 : decode cX1_write 45 = .ok (.iconst 4, 1) := by decide +kernel
theorem dX1_write_46 : decode cX1_write 46 = .ok (.iand, 1) := by decide +kernel
theorem dX1_write_47 : decode cX1_write 47 = .ok (.iload_n 2, 1) := by decide +kernel
theorem dX1_write_48 : decode cX1_write 48 = .ok (.iconst 1, 1) := by decide +kernel
theorem dX1_write_49 : decode cX1_write 49 = .ok (.ishl, 1) := by decide +kernel
theorem dX1_write_50 : decode cX1_write 50 = .ok (.invokevirtual 50, 3) := by decide +kernel
theorem dX1_write_53 : decode cX1_write 53 = .ok (.goto 32, 3) := by decide +kernel
theorem dX1_write_56 : decode cX1_write 56 = .ok (.iload_n 1, 1) := by decide +kernel
theorem dX1_write_57 : decode cX1_write 57 = .ok (.bipush 23, 2) := by decide +kernel
theorem dX1_write_59 : decode cX1_write 59 = .ok (.if_icmp .ne 14, 3) := by decide +kernel
theorem dX1_write_62 : decode cX1_write 62 = .ok (.aload_n 0, 1) := by decide +kernel
theorem dX1_write_63 : decode cX1_write 63 = .ok (.bipush 24, 2) := by decide +kernel
theorem dX1_write_65 : decode cX1_write 65 = .ok (.iconst 4, 1) := by decide +kernel
theorem dX1_write_66 : decode cX1_write 66 = .ok (.iload_n 2, 1) := by decide +kernel
theorem dX1_write_67 : decode cX1_write 67 = .ok (.invokevirtual 50, 3) := by decide +kernel
theorem dX1_write_70 : decode cX1_write 70 = .ok (.goto 15, 3) := by decide +kernel
theorem dX1_write_73 : decode cX1_write 73 = .ok (.aload_n 0, 1) := by decide +kernel
theorem dX1_write_74 : decode cX1_write 74 = .ok (.iload_n 1, 1) := by decide +kernel
theorem dX1_write_75 : decode cX1_write 75 = .ok (.iconst (-1), 1) := by decide +kernel
theorem dX1_write_76 : decode cX1_write 76 = .ok (.iload_n 2, 1) := by decide +kernel
theorem dX1_write_77 : decode cX1_write 77 = .ok (.iload_n 1, 1) := by decide +kernel
theorem dX1_write_78 : decode cX1_write 78 = .ok (.invokestatic 54, 3) := by decide +kernel
theorem dX1_write_81 : decode cX1_write 81 = .ok (.iand, 1) := by decide +kernel
theorem dX1_write_82 : decode cX1_write 82 = .ok (.invokevirtual 50, 3) := by decide +kernel
theorem dX1_write_85 : decode cX1_write 85 = .ok (.return_, 1) := by decide +kernel
set_option maxRecDepth 20000 in
theorem ggX1_refusal_X1_has : GoodIn wsX1_refusal wsX1_has := goodIn_r _ [6, 7, 8, 9, 10, 11, 12, 13] (by decide +kernel) (by decide +kernel)
set_option maxRecDepth 20000 in
theorem gX1_refusal_X1_has : GoodIn wsX1_refusal (wsV RX1 57 RX1 yX1_has wsX1_has) := goodIn_app (goodIn_of _ (by decide +kernel)) ggX1_refusal_X1_has
theorem dX1_refusal_0 : decode cX1_refusal 0 = .ok (.iload_n 1, 1) := by decide +kernel
theorem dX1_refusal_1 : decode cX1_refusal 1 = .ok (.bipush 27, 2) := by decide +kernel
theorem dX1_refusal_3 : decode cX1_refusal 3 = .ok (.if_icmp .eq 9, 3) := by decide +kernel
theorem dX1_refusal_6 : decode cX1_refusal 6 = .ok (.iload_n 1, 1) := by decide +kernel
theorem dX1_refusal_7 : decode cX1_refusal 7 = .ok (.bipush 28, 2) := by decide +kernel
theorem dX1_refusal_9 : decode cX1_refusal 9 = .ok (.if_icmp .ne 7, 3) := by decide +kernel
theorem dX1_refusal_12 : decode cX1_refusal 12 = .ok (.iconst 1, 1) := by decide +kernel
theorem dX1_refusal_13 : decode cX1_refusal 13 = .ok (.goto 4, 3) := by decide +kernel
theorem dX1_refusal_16 : decode cX1_refusal 16 = .ok (.iconst 0, 1) := by decide +kernel
theorem dX1_refusal_17 : decode cX1_refusal 17 = .ok (.istore_n 3, 1) := by decide +kernel
theorem dX1_refusal_18 : decode cX1_refusal 18 = .ok (.iload_n 1, 1) := by decide +kernel
theorem dX1_refusal_19 : decode cX1_refusal 19 = .ok (.iconst (-1), 1) := by decide +kernel
theorem dX1_refusal_20 : decode cX1_refusal 20 = .ok (.if_icmp .eq 11, 3) := by decide +kernel
theorem dX1_refusal_23 : decode cX1_refusal 23 = .ok (.iload_n 3, 1) := by decide +kernel
theorem dX1_refusal_24 : decode cX1_refusal 24 = .ok (.ifCond .eq 9, 3) := by decide +kernel
theorem dX1_refusal_27 : decode cX1_refusal 27 = .ok (.iload_n 2, 1) := by decide +kernel
theorem dX1_refusal_28 : decode cX1_refusal 28 = .ok (.ifCond .eq 5, 3) := by decide +kernel
theorem dX1_refusal_31 : decode cX1_refusal 31 = .ok (.iconst 2, 1) := by decide +kernel
theorem dX1_refusal_32 : decode cX1_refusal 32 = .ok (.ireturn, 1) := by decide +kernel
theorem dX1_refusal_33 : decode cX1_refusal 33 = .ok (.aload_n 0, 1) := by decide +kernel
theorem dX1_refusal_34 : decode cX1_refusal 34 = .ok (.getfield 16, 3) := by decide +kernel
theorem dX1_refusal_37 : decode cX1_refusal 37 = .ok (.iconst 1, 1) := by decide +kernel
theorem dX1_refusal_38 : decode cX1_refusal 38 = .ok (.if_icmp .eq 7, 3) := by decide +kernel
theorem dX1_refusal_41 : decode cX1_refusal 41 = .ok (.iload_n 3, 1) := by decide +kernel
theorem dX1_refusal_42 : decode cX1_refusal 42 = .ok (.ifCond .eq 5, 3) := by decide +kernel
theorem dX1_refusal_45 : decode cX1_refusal 45 = .ok (.iconst 0, 1) := by decide +kernel
theorem dX1_refusal_46 : decode cX1_refusal 46 = .ok (.ireturn, 1) := by decide +kernel
theorem dX1_refusal_47 : decode cX1_refusal 47 = .ok (.aload_n 0, 1) := by decide +kernel
theorem dX1_refusal_48 : decode cX1_refusal 48 = .ok (.getfield 16, 3) := by decide +kernel
theorem dX1_refusal_51 : decode cX1_refusal 51 = .ok (.ifCond .ne 5, 3) := by decide +kernel
theorem dX1_refusal_54 : decode cX1_refusal 54 = .ok (.iconst 2, 1) := by decide +kernel
theorem dX1_refusal_55 : decode cX1_refusal 55 = .ok (.ireturn, 1) := by decide +kernel
theorem dX1_refusal_56 : decode cX1_refusal 56 = .ok (.aload_n 0, 1) := by decide +kernel
theorem dX1_refusal_57 : decode cX1_refusal 57 = .ok (.getfield 16, 3) := by decide +kernel
theorem dX1_refusal_60 : decode cX1_refusal 60 = .ok (.iconst 3, 1) := by decide +kernel
theorem dX1_refusal_61 : decode cX1_refusal 61 = .ok (.if_icmp .ne 30, 3) := by decide +kernel
theorem dX1_refusal_64 : decode cX1_refusal 64 = .ok (.iload_n 1, 1) := by decide +kernel
theorem dX1_refusal_65 : decode cX1_refusal 65 = .ok (.bipush 8, 2) := by decide +kernel
theorem dX1_refusal_67 : decode cX1_refusal 67 = .ok (.if_icmp .gt 24, 3) := by decide +kernel
theorem dX1_refusal_70 : decode cX1_refusal 70 = .ok (.iload_n 1, 1) := by decide +kernel
theorem dX1_refusal_71 : decode cX1_refusal 71 = .ok (.bipush 8, 2) := by decide +kernel
theorem dX1_refusal_73 : decode cX1_refusal 73 = .ok (.if_icmp .ne 14, 3) := by decide +kernel
theorem dX1_refusal_76 : decode cX1_refusal 76 = .ok (.aload_n 0, 1) := by decide +kernel
theorem dX1_refusal_77 : decode cX1_refusal 77 = .ok (.bipush 18, 2) := by decide +kernel
theorem dX1_refusal_79 : decode cX1_refusal 79 = .ok (.bipush 20, 2) := by decide +kernel
theorem dX1_refusal_81 : decode cX1_refusal 81 = .ok (.invokevirtual 57, 3) := by decide +kernel
theorem dX1_refusal_84 : decode cX1_refusal 84 = .ok (.ifCond .ne 7, 3) := by decide +kernel
theorem dX1_refusal_87 : decode cX1_refusal 87 = .ok (.iconst 1, 1) := by decide +kernel
theorem dX1_refusal_88 : decode cX1_refusal 88 = .ok (.goto 4, 3) := by decide +kernel
theorem dX1_refusal_91 : decode cX1_refusal 91 = .ok (.iconst 0, 1) := by decide +kernel
theorem dX1_refusal_92 : decode cX1_refusal 92 = .ok (.istore 4, 2) := by decide +kernel
theorem dX1_refusal_94 : decode cX1_refusal 94 = .ok (.iload 4, 2) := by decide +kernel
theorem dX1_refusal_96 : decode cX1_refusal 96 = .ok (.ifCond .eq 7, 3) := by decide +kernel
theorem dX1_refusal_99 : decode cX1_refusal 99 = .ok (.iconst 0, 1) := by decide +kernel
theorem dX1_refusal_100 : decode cX1_refusal 100 = .ok (.goto 5, 3) := by decide +kernel
theorem dX1_refusal_103 : decode cX1_refusal 103 = .ok (.bipush 22, 2) := by decide +kernel
theorem dX1_refusal_105 : decode cX1_refusal 105 = .ok (.ireturn, 1) := by decide +kernel
set_option maxRecDepth 20000 in
theorem ggX1_access_X1_placeOf : GoodIn wsX1_access wsX1_placeOf := goodIn_r _ [6, 7, 8, 5, 9, 10, 11, 12] (by decide +kernel) (by decide +kernel)
set_option maxRecDepth 20000 in
theorem gX1_access_X1_placeOf : GoodIn wsX1_access (va_wsS RX1 61 yX1_placeOf wsX1_placeOf) := goodIn_app (goodIn_of _ (by decide +kernel)) ggX1_access_X1_placeOf
set_option maxRecDepth 20000 in
theorem ggX1_access_X1_refusal : GoodIn wsX1_access wsX1_refusal := goodIn_r _ [16, 1, 17, 18, 19, 5, 20, 21, 45, 46, 47, 48, 49, 50] (by decide +kernel) (by decide +kernel)
set_option maxRecDepth 20000 in
theorem gX1_access_X1_refusal : GoodIn wsX1_access (wsV RX1 64 RX1 yX1_refusal wsX1_refusal) := goodIn_app (goodIn_of _ (by decide +kernel)) ggX1_access_X1_refusal
set_option maxRecDepth 20000 in
theorem ggX1_access_X1_tells : GoodIn wsX1_access wsX1_tells := goodIn_r _ [25, 21, 26, 27, 28, 45, 46, 47, 48, 49, 50] (by decide +kernel) (by decide +kernel)
set_option maxRecDepth 20000 in
theorem gX1_access_X1_tells : GoodIn wsX1_access (wsV RX1 68 RX1 yX1_tells wsX1_tells) := goodIn_app (goodIn_of _ (by decide +kernel)) ggX1_access_X1_tells
set_option maxRecDepth 20000 in
theorem ggX1_access_X1_write : GoodIn wsX1_access wsX1_write := goodIn_r _ [32, 21, 33, 34, 35, 5, 36, 37, 38, 39, 40, 41, 42, 43, 44, 45, 46, 47, 48, 49, 50] (by decide +kernel) (by decide +kernel)
set_option maxRecDepth 20000 in
theorem gX1_access_X1_write : GoodIn wsX1_access (wsV RX1 71 RX1 yX1_write wsX1_write) := goodIn_app (goodIn_of _ (by decide +kernel)) ggX1_access_X1_write
theorem dX1_access_0 : decode cX1_access 0 = .ok (.iload_n 2, 1) := by decide +kernel
theorem dX1_access_1 : decode cX1_access 1 = .ok (.ifCond .lt 8, 3) := by decide +kernel
theorem dX1_access_4 : decode cX1_access 4 = .ok (.iload_n 2, 1) := by decide +kernel
theorem dX1_access_5 : decode cX1_access 5 = .ok (.iconst 3, 1) := by decide +kernel
theorem dX1_access_6 : decode cX1_access 6 = .ok (.if_icmp .le 5, 3) := by decide +kernel
theorem dX1_access_9 : decode cX1_access 9 = .ok (.iconst (-1), 1) := by decide +kernel
theorem dX1_access_10 : decode cX1_access 10 = .ok (.ireturn, 1) := by decide +kernel
theorem dX1_access_11 : decode cX1_access 11 = .ok (.iload_n 1, 1) := by decide +kernel
theorem dX1_access_12 : decode cX1_access 12 = .ok (.invokestatic 61, 3) := by decide +kernel
theorem dX1_access_15 : decode cX1_access 15 = .ok (.istore 4, 2) := by decide +kernel
theorem dX1_access_17 : decode cX1_access 17 = .ok (.aload_n 0, 1) := by decide +kernel
theorem dX1_access_18 : decode cX1_access 18 = .ok (.iload 4, 2) := by decide +kernel
theorem dX1_access_20 : decode cX1_access 20 = .ok (.iload_n 2, 1) := by decide +kernel
theorem dX1_access_21 : decode cX1_access 21 = .ok (.ifCond .le 7, 3) := by decide +kernel
theorem dX1_access_24 : decode cX1_access 24 = .ok (.iconst 1, 1) := by decide +kernel
theorem dX1_access_25 : decode cX1_access 25 = .ok (.goto 4, 3) := by decide +kernel
theorem dX1_access_28 : decode cX1_access 28 = .ok (.iconst 0, 1) := by decide +kernel
theorem dX1_access_29 : decode cX1_access 29 = .ok (.invokevirtual 64, 3) := by decide +kernel
theorem dX1_access_32 : decode cX1_access 32 = .ok (.istore 5, 2) := by decide +kernel
theorem dX1_access_34 : decode cX1_access 34 = .ok (.iload 5, 2) := by decide +kernel
theorem dX1_access_36 : decode cX1_access 36 = .ok (.ifCond .le 6, 3) := by decide +kernel
theorem dX1_access_39 : decode cX1_access 39 = .ok (.iload 5, 2) := by decide +kernel
theorem dX1_access_41 : decode cX1_access 41 = .ok (.ireturn, 1) := by decide +kernel
theorem dX1_access_42 : decode cX1_access 42 = .ok (.aload_n 0, 1) := by decide +kernel
theorem dX1_access_43 : decode cX1_access 43 = .ok (.getfield 16, 3) := by decide +kernel
theorem dX1_access_46 : decode cX1_access 46 = .ok (.iconst 3, 1) := by decide +kernel
theorem dX1_access_47 : decode cX1_access 47 = .ok (.if_icmp .ne 18, 3) := by decide +kernel
theorem dX1_access_50 : decode cX1_access 50 = .ok (.iload 4, 2) := by decide +kernel
theorem dX1_access_52 : decode cX1_access 52 = .ok (.bipush 8, 2) := by decide +kernel
theorem dX1_access_54 : decode cX1_access 54 = .ok (.if_icmp .gt 11, 3) := by decide +kernel
theorem dX1_access_57 : decode cX1_access 57 = .ok (.iload 4, 2) := by decide +kernel
theorem dX1_access_59 : decode cX1_access 59 = .ok (.bipush 9, 2) := by decide +kernel
theorem dX1_access_61 : decode cX1_access 61 = .ok (.iadd, 1) := by decide +kernel
theorem dX1_access_62 : decode cX1_access 62 = .ok (.goto 5, 3) := by decide +kernel
theorem dX1_access_65 : decode cX1_access 65 = .ok (.iload 4, 2) := by decide +kernel
theorem dX1_access_67 : decode cX1_access 67 = .ok (.istore 6, 2) := by decide +kernel
theorem dX1_access_69 : decode cX1_access 69 = .ok (.aload_n 0, 1) := by decide +kernel
theorem dX1_access_70 : decode cX1_access 70 = .ok (.aload_n 0, 1) := by decide +kernel
theorem dX1_access_71 : decode cX1_access 71 = .ok (.iload 6, 2) := by decide +kernel
theorem dX1_access_73 : decode cX1_access 73 = .ok (.invokevirtual 68, 3) := by decide +kernel
theorem dX1_access_76 : decode cX1_access 76 = .ok (.putfield 33, 3) := by decide +kernel
theorem dX1_access_79 : decode cX1_access 79 = .ok (.iload_n 2, 1) := by decide +kernel
theorem dX1_access_80 : decode cX1_access 80 = .ok (.ifCond .le 40, 3) := by decide +kernel
theorem dX1_access_83 : decode cX1_access 83 = .ok (.aload_n 0, 1) := by decide +kernel
theorem dX1_access_84 : decode cX1_access 84 = .ok (.iload 6, 2) := by decide +kernel
theorem dX1_access_86 : decode cX1_access 86 = .ok (.iload_n 2, 1) := by decide +kernel
theorem dX1_access_87 : decode cX1_access 87 = .ok (.iconst 1, 1) := by decide +kernel
theorem dX1_access_88 : decode cX1_access 88 = .ok (.if_icmp .ne 7, 3) := by decide +kernel
theorem dX1_access_91 : decode cX1_access 91 = .ok (.iload_n 3, 1) := by decide +kernel
theorem dX1_access_92 : decode cX1_access 92 = .ok (.goto 25, 3) := by decide +kernel
theorem dX1_access_95 : decode cX1_access 95 = .ok (.iload_n 2, 1) := by decide +kernel
theorem dX1_access_96 : decode cX1_access 96 = .ok (.iconst 2, 1) := by decide +kernel
theorem dX1_access_97 : decode cX1_access 97 = .ok (.if_icmp .ne 12, 3) := by decide +kernel
theorem dX1_access_100 : decode cX1_access 100 = .ok (.aload_n 0, 1) := by decide +kernel
theorem dX1_access_101 : decode cX1_access 101 = .ok (.getfield 33, 3) := by decide +kernel
theorem dX1_access_104 : decode cX1_access 104 = .ok (.iload_n 3, 1) := by decide +kernel
theorem dX1_access_105 : decode cX1_access 105 = .ok (.ior, 1) := by decide +kernel
theorem dX1_access_106 : decode cX1_access 106 = .ok (.goto 11, 3) := by decide +kernel
theorem dX1_access_109 : decode cX1_access 109 = .ok (.aload_n 0, 1) := by decide +kernel
theorem dX1_access_110 : decode cX1_access 110 = .ok (.getfield 33, 3) := by decide +kernel
theorem dX1_access_113 : decode cX1_access 113 = .ok (.iload_n 3, 1) := by decide +kernel
theorem dX1_access_114 : decode cX1_access 114 = .ok (.iconst (-1), 1) := by decide +kernel
theorem dX1_access_115 : decode cX1_access 115 = .ok (.ixor, 1) := by decide +kernel
theorem dX1_access_116 : decode cX1_access 116 = .ok (.iand, 1) := by decide +kernel
theorem dX1_access_117 : decode cX1_access 117 = .ok (.invokevirtual 71, 3) := by decide +kernel
theorem dX1_access_120 : decode cX1_access 120 = .ok (.iconst 0, 1) := by decide +kernel
theorem dX1_access_121 : decode cX1_access 121 = .ok (.ireturn, 1) := by decide +kernel
theorem dX1_old_0 : decode cX1_old 0 = .ok (.aload_n 0, 1) := by decide +kernel
theorem dX1_old_1 : decode cX1_old 1 = .ok (.getfield 33, 3) := by decide +kernel
theorem dX1_old_4 : decode cX1_old 4 = .ok (.ireturn, 1) := by decide +kernel
set_option maxRecDepth 20000 in
theorem ggX1_control_X1_placeOf : GoodIn wsX1_control wsX1_placeOf := goodIn_r _ [4, 5, 6, 3, 7, 8, 9, 10] (by decide +kernel) (by decide +kernel)
set_option maxRecDepth 20000 in
theorem gX1_control_X1_placeOf : GoodIn wsX1_control (va_wsS RX1 61 yX1_placeOf wsX1_placeOf) := goodIn_app (goodIn_of _ (by decide +kernel)) ggX1_control_X1_placeOf
set_option maxRecDepth 20000 in
theorem ggX1_control_X1_tells : GoodIn wsX1_control wsX1_tells := goodIn_r _ [14, 15, 16, 17, 18, 19, 20, 21, 22, 23, 24] (by decide +kernel) (by decide +kernel)
set_option maxRecDepth 20000 in
theorem gX1_control_X1_tells : GoodIn wsX1_control (wsV RX1 68 RX1 yX1_tells wsX1_tells) := goodIn_app (goodIn_of _ (by decide +kernel)) ggX1_control_X1_tells
theorem dX1_control_0 : decode cX1_control 0 = .ok (.iload_n 1, 1) := by decide +kernel
theorem dX1_control_1 : decode cX1_control 1 = .ok (.invokestatic 61, 3) := by decide +kernel
theorem dX1_control_4 : decode cX1_control 4 = .ok (.istore_n 2, 1) := by decide +kernel
theorem dX1_control_5 : decode cX1_control 5 = .ok (.iload_n 2, 1) := by decide +kernel
theorem dX1_control_6 : decode cX1_control 6 = .ok (.iconst (-1), 1) := by decide +kernel
theorem dX1_control_7 : decode cX1_control 7 = .ok (.if_icmp .ne 7, 3) := by decide +kernel
theorem dX1_control_10 : decode cX1_control 10 = .ok (.iconst 0, 1) := by decide +kernel
theorem dX1_control_11 : decode cX1_control 11 = .ok (.goto 8, 3) := by decide +kernel
theorem dX1_control_14 : decode cX1_control 14 = .ok (.aload_n 0, 1) := by decide +kernel
theorem dX1_control_15 : decode cX1_control 15 = .ok (.iload_n 2, 1) := by decide +kernel
theorem dX1_control_16 : decode cX1_control 16 = .ok (.invokevirtual 68, 3) := by decide +kernel
theorem dX1_control_19 : decode cX1_control 19 = .ok (.ireturn, 1) := by decide +kernel
set_option maxRecDepth 20000 in
theorem ggX1_used_X1_tells : GoodIn wsX1_used wsX1_tells := goodIn_r _ [5, 6, 7, 8, 9, 10, 11, 12, 13, 14, 15] (by decide +kernel) (by decide +kernel)
set_option maxRecDepth 20000 in
theorem gX1_used_X1_tells : GoodIn wsX1_used (wsV RX1 68 RX1 yX1_tells wsX1_tells) := goodIn_app (goodIn_of _ (by decide +kernel)) ggX1_used_X1_tells
theorem dX1_used_0 : decode cX1_used 0 = .ok (.iconst 0, 1) := by decide +kernel
theorem dX1_used_1 : decode cX1_used 1 = .ok (.istore_n 1, 1) := by decide +kernel
theorem dX1_used_2 : decode cX1_used 2 = .ok (.iconst 0, 1) := by decide +kernel
theorem dX1_used_3 : decode cX1_used 3 = .ok (.istore_n 2, 1) := by decide +kernel
theorem dX1_used_4 : decode cX1_used 4 = .ok (.iload_n 2, 1) := by decide +kernel
theorem dX1_used_5 : decode cX1_used 5 = .ok (.bipush 29, 2) := by decide +kernel
theorem dX1_used_7 : decode cX1_used 7 = .ok (.if_icmp .ge 25, 3) := by decide +kernel
theorem dX1_used_10 : decode cX1_used 10 = .ok (.iload_n 1, 1) := by decide +kernel
theorem dX1_used_11 : decode cX1_used 11 = .ok (.aload_n 0, 1) := by decide +kernel
theorem dX1_used_12 : decode cX1_used 12 = .ok (.iload_n 2, 1) := by decide +kernel
theorem dX1_used_13 : decode cX1_used 13 = .ok (.invokevirtual 68, 3) := by decide +kernel
theorem dX1_used_16 : decode cX1_used 16 = .ok (.ifCond .eq 7, 3) := by decide +kernel
theorem dX1_used_19 : decode cX1_used 19 = .ok (.iconst 1, 1) := by decide +kernel
theorem dX1_used_20 : decode cX1_used 20 = .ok (.goto 4, 3) := by decide +kernel
theorem dX1_used_23 : decode cX1_used 23 = .ok (.iconst 0, 1) := by decide +kernel
theorem dX1_used_24 : decode cX1_used 24 = .ok (.iadd, 1) := by decide +kernel
theorem dX1_used_25 : decode cX1_used 25 = .ok (.istore_n 1, 1) := by decide +kernel
theorem dX1_used_26 : decode cX1_used 26 = .ok (.iinc 2 1, 3) := by decide +kernel
theorem dX1_used_29 : decode cX1_used 29 = .ok (.goto (-25), 3) := by decide +kernel
theorem dX1_used_32 : decode cX1_used 32 = .ok (.iload_n 1, 1) := by decide +kernel
theorem dX1_used_33 : decode cX1_used 33 = .ok (.ireturn, 1) := by decide +kernel
theorem dJ7_fill_53178_0 : decode cJ7_fill_53178 0 = .ok (.iconst 0, 1) := by decide +kernel
theorem dJ7_fill_53178_1 : decode cJ7_fill_53178 1 = .ok (.istore_n 2, 1) := by decide +kernel
theorem dJ7_fill_53178_2 : decode cJ7_fill_53178 2 = .ok (.aload_n 0, 1) := by decide +kernel
theorem dJ7_fill_53178_3 : decode cJ7_fill_53178 3 = .ok (.arraylength, 1) := by decide +kernel
theorem dJ7_fill_53178_4 : decode cJ7_fill_53178 4 = .ok (.istore_n 3, 1) := by decide +kernel
theorem dJ7_fill_53178_5 : decode cJ7_fill_53178 5 = .ok (.iload_n 2, 1) := by decide +kernel
theorem dJ7_fill_53178_6 : decode cJ7_fill_53178 6 = .ok (.iload_n 3, 1) := by decide +kernel
theorem dJ7_fill_53178_7 : decode cJ7_fill_53178 7 = .ok (.if_icmp .ge 13, 3) := by decide +kernel
theorem dJ7_fill_53178_10 : decode cJ7_fill_53178 10 = .ok (.aload_n 0, 1) := by decide +kernel
theorem dJ7_fill_53178_11 : decode cJ7_fill_53178 11 = .ok (.iload_n 2, 1) := by decide +kernel
theorem dJ7_fill_53178_12 : decode cJ7_fill_53178 12 = .ok (.iload_n 1, 1) := by decide +kernel
theorem dJ7_fill_53178_13 : decode cJ7_fill_53178 13 = .ok (.iastore, 1) := by decide +kernel
theorem dJ7_fill_53178_14 : decode cJ7_fill_53178 14 = .ok (.iinc 2 1, 3) := by decide +kernel
theorem dJ7_fill_53178_17 : decode cJ7_fill_53178 17 = .ok (.goto (-12), 3) := by decide +kernel
theorem dJ7_fill_53178_20 : decode cJ7_fill_53178 20 = .ok (.return_, 1) := by decide +kernel
set_option maxRecDepth 20000 in
theorem ggL_law_X0_init : GoodIn wsL_law wsX0_init := goodIn_r _ [8, 9, 10, 11, 12, 13, 14, 15, 16, 2, 17, 18, 19, 20, 21, 22, 23, 24, 25, 26, 27, 207, 208, 209, 210, 211, 212] (by decide +kernel) (by decide +kernel)
set_option maxRecDepth 20000 in
theorem gL_law_X0_init : GoodIn wsL_law (wsX0_init) := ggL_law_X0_init
set_option maxRecDepth 20000 in
theorem ggL_law_X1_init : GoodIn wsL_law wsX1_init := goodIn_r _ [30, 31, 10, 11, 12, 32, 33, 34, 35, 5, 36, 37, 38, 39, 40, 41, 42, 213, 214, 215, 216, 217, 218] (by decide +kernel) (by decide +kernel)
set_option maxRecDepth 20000 in
theorem gL_law_X1_init : GoodIn wsL_law (wsX1_init) := ggL_law_X1_init
set_option maxRecDepth 20000 in
theorem ggL_law_X0_begin : GoodIn wsL_law wsX0_begin := goodIn_r _ [46, 14, 15, 16, 2, 17, 13, 18, 19, 20, 21, 22, 23, 24, 25, 26, 27, 207, 208, 209, 210, 211, 212] (by decide +kernel) (by decide +kernel)
set_option maxRecDepth 20000 in
theorem gL_law_X0_begin : GoodIn wsL_law (wsV RL 13 RX0 yX0_begin wsX0_begin) := goodIn_app (goodIn_of _ (by decide +kernel)) ggL_law_X0_begin
set_option maxRecDepth 20000 in
theorem ggL_law_X1_begin : GoodIn wsL_law wsX1_begin := goodIn_r _ [36, 32, 37, 38, 39, 40, 41, 42, 213, 214, 215, 216, 217, 218] (by decide +kernel) (by decide +kernel)
set_option maxRecDepth 20000 in
theorem gL_law_X1_begin : GoodIn wsL_law (wsV RL 16 RX1 yX1_begin wsX1_begin) := goodIn_app (goodIn_of _ (by decide +kernel)) ggL_law_X1_begin
set_option maxRecDepth 20000 in
theorem ggL_law_X0_mode : GoodIn wsL_law wsX0_mode := goodIn_r _ [51, 18, 207, 208, 209, 210, 211, 212] (by decide +kernel) (by decide +kernel)
set_option maxRecDepth 20000 in
theorem gL_law_X0_mode : GoodIn wsL_law (wsV RL 17 RX0 yX0_mode wsX0_mode) := goodIn_app (goodIn_of _ (by decide +kernel)) ggL_law_X0_mode
set_option maxRecDepth 20000 in
theorem ggL_law_X1_mode : GoodIn wsL_law wsX1_mode := goodIn_r _ [55, 37, 213, 214, 215, 216, 217, 218] (by decide +kernel) (by decide +kernel)
set_option maxRecDepth 20000 in
theorem gL_law_X1_mode : GoodIn wsL_law (wsV RL 21 RX1 yX1_mode wsX1_mode) := goodIn_app (goodIn_of _ (by decide +kernel)) ggL_law_X1_mode
set_option maxRecDepth 20000 in
theorem ggL_law_X0_time : GoodIn wsL_law wsX0_time := goodIn_r _ [59, 60, 19, 207, 208, 209, 210, 211, 212] (by decide +kernel) (by decide +kernel)
set_option maxRecDepth 20000 in
theorem gL_law_X0_time : GoodIn wsL_law (wsV RL 24 RX0 yX0_time wsX0_time) := goodIn_app (goodIn_of _ (by decide +kernel)) ggL_law_X0_time
set_option maxRecDepth 20000 in
theorem ggL_law_X1_time : GoodIn wsL_law wsX1_time := goodIn_r _ [64, 65, 38, 213, 214, 215, 216, 217, 218] (by decide +kernel) (by decide +kernel)
set_option maxRecDepth 20000 in
theorem gL_law_X1_time : GoodIn wsL_law (wsV RL 28 RX1 yX1_time wsX1_time) := goodIn_app (goodIn_of _ (by decide +kernel)) ggL_law_X1_time
set_option maxRecDepth 20000 in
theorem ggL_law_X0_alarm : GoodIn wsL_law wsX0_alarm := goodIn_r _ [69, 21, 20, 207, 208, 209, 210, 211, 212] (by decide +kernel) (by decide +kernel)
set_option maxRecDepth 20000 in
theorem gL_law_X0_alarm : GoodIn wsL_law (wsV RL 29 RX0 yX0_alarm wsX0_alarm) := goodIn_app (goodIn_of _ (by decide +kernel)) ggL_law_X0_alarm
set_option maxRecDepth 20000 in
theorem ggL_law_X1_alarm : GoodIn wsL_law wsX1_alarm := goodIn_r _ [73, 40, 39, 213, 214, 215, 216, 217, 218] (by decide +kernel) (by decide +kernel)
set_option maxRecDepth 20000 in
theorem gL_law_X1_alarm : GoodIn wsL_law (wsV RL 32 RX1 yX1_alarm wsX1_alarm) := goodIn_app (goodIn_of _ (by decide +kernel)) ggL_law_X1_alarm
set_option maxRecDepth 20000 in
theorem ggL_law_X0_line : GoodIn wsL_law wsX0_line := goodIn_r _ [77, 22, 207, 208, 209, 210, 211, 212] (by decide +kernel) (by decide +kernel)
set_option maxRecDepth 20000 in
theorem gL_law_X0_line : GoodIn wsL_law (wsV RL 33 RX0 yX0_line wsX0_line) := goodIn_app (goodIn_of _ (by decide +kernel)) ggL_law_X0_line
set_option maxRecDepth 20000 in
theorem ggL_law_X1_line : GoodIn wsL_law wsX1_line := goodIn_r _ [81, 41, 213, 214, 215, 216, 217, 218] (by decide +kernel) (by decide +kernel)
set_option maxRecDepth 20000 in
theorem gL_law_X1_line : GoodIn wsL_law (wsV RL 37 RX1 yX1_line wsX1_line) := goodIn_app (goodIn_of _ (by decide +kernel)) ggL_law_X1_line
set_option maxRecDepth 20000 in
theorem ggL_law_X0_access : GoodIn wsL_law wsX0_access := goodIn_r _ [85, 18, 23, 86, 87, 2, 88, 89, 90, 91, 92, 93, 94, 95, 96, 97, 98, 99, 100, 101, 102, 103, 13, 104, 105, 106, 107, 108, 19, 109, 110, 111, 112, 21, 22, 113, 114, 115, 116, 117, 118, 119, 120, 121, 122, 123, 124, 207, 208, 209, 210, 211, 212] (by decide +kernel) (by decide +kernel)
set_option maxRecDepth 20000 in
theorem gL_law_X0_access : GoodIn wsL_law (wsV RL 38 RX0 yX0_access wsX0_access) := goodIn_app (goodIn_of _ (by decide +kernel)) ggL_law_X0_access
set_option maxRecDepth 20000 in
theorem ggL_law_X1_access : GoodIn wsL_law wsX1_access := goodIn_r _ [128, 37, 42, 129, 130, 5, 131, 132, 133, 134, 135, 136, 137, 138, 139, 140, 141, 142, 143, 144, 145, 32, 146, 147, 148, 149, 38, 40, 41, 150, 151, 152, 153, 154, 155, 156, 157, 158, 159, 160, 161, 162, 163, 164, 165, 213, 214, 215, 216, 217, 218] (by decide +kernel) (by decide +kernel)
set_option maxRecDepth 20000 in
theorem gL_law_X1_access : GoodIn wsL_law (wsV RL 42 RX1 yX1_access wsX1_access) := goodIn_app (goodIn_of _ (by decide +kernel)) ggL_law_X1_access
set_option maxRecDepth 20000 in
theorem ggL_law_X0_old : GoodIn wsL_law wsX0_old := goodIn_r _ [169, 23, 207, 208, 209, 210, 211, 212] (by decide +kernel) (by decide +kernel)
set_option maxRecDepth 20000 in
theorem gL_law_X0_old : GoodIn wsL_law (wsV RL 43 RX0 yX0_old wsX0_old) := goodIn_app (goodIn_of _ (by decide +kernel)) ggL_law_X0_old
set_option maxRecDepth 20000 in
theorem ggL_law_X1_old : GoodIn wsL_law wsX1_old := goodIn_r _ [173, 42, 213, 214, 215, 216, 217, 218] (by decide +kernel) (by decide +kernel)
set_option maxRecDepth 20000 in
theorem gL_law_X1_old : GoodIn wsL_law (wsV RL 47 RX1 yX1_old wsX1_old) := goodIn_app (goodIn_of _ (by decide +kernel)) ggL_law_X1_old
set_option maxRecDepth 20000 in
theorem ggL_law_X0_control : GoodIn wsL_law wsX0_control := goodIn_r _ [177, 86, 87, 2, 88, 89, 105, 106, 107, 108, 13, 19, 109, 110, 111, 112, 21, 22, 207, 208, 209, 210, 211, 212] (by decide +kernel) (by decide +kernel)
set_option maxRecDepth 20000 in
theorem gL_law_X0_control : GoodIn wsL_law (wsV RL 48 RX0 yX0_control wsX0_control) := goodIn_app (goodIn_of _ (by decide +kernel)) ggL_law_X0_control
set_option maxRecDepth 20000 in
theorem ggL_law_X1_control : GoodIn wsL_law wsX1_control := goodIn_r _ [181, 129, 130, 5, 131, 132, 133, 134, 135, 136, 137, 146, 147, 148, 149, 32, 38, 40, 41, 213, 214, 215, 216, 217, 218] (by decide +kernel) (by decide +kernel)
set_option maxRecDepth 20000 in
theorem gL_law_X1_control : GoodIn wsL_law (wsV RL 51 RX1 yX1_control wsX1_control) := goodIn_app (goodIn_of _ (by decide +kernel)) ggL_law_X1_control
set_option maxRecDepth 20000 in
theorem ggL_law_X0_used : GoodIn wsL_law wsX0_used := goodIn_r _ [185, 105, 106, 107, 2, 108, 13, 19, 109, 110, 111, 112, 21, 22, 207, 208, 209, 210, 211, 212] (by decide +kernel) (by decide +kernel)
set_option maxRecDepth 20000 in
theorem gL_law_X0_used : GoodIn wsL_law (wsV RL 52 RX0 yX0_used wsX0_used) := goodIn_app (goodIn_of _ (by decide +kernel)) ggL_law_X0_used
set_option maxRecDepth 20000 in
theorem ggL_law_X1_used : GoodIn wsL_law wsX1_used := goodIn_r _ [189, 146, 147, 148, 5, 149, 32, 38, 40, 41, 213, 214, 215, 216, 217, 218] (by decide +kernel) (by decide +kernel)
set_option maxRecDepth 20000 in
theorem gL_law_X1_used : GoodIn wsL_law (wsV RL 55 RX1 yX1_used wsX1_used) := goodIn_app (goodIn_of _ (by decide +kernel)) ggL_law_X1_used
set_option maxRecDepth 20000 in
theorem ggL_law_X0_due : GoodIn wsL_law wsX0_due := goodIn_r _ [193, 194, 195, 196, 2, 197, 18, 13, 198, 109, 110, 111, 112, 19, 21, 22, 199, 200, 201, 202, 203, 204, 205, 206, 207, 208, 209, 210, 211, 212] (by decide +kernel) (by decide +kernel)
set_option maxRecDepth 20000 in
theorem gL_law_X0_due : GoodIn wsL_law (wsV RL 56 RX0 yX0_due wsX0_due) := goodIn_app (goodIn_of _ (by decide +kernel)) ggL_law_X0_due
theorem dL_law_0 : decode cL_law 0 = .ok (.new 7, 3) := by decide +kernel
theorem dL_law_3 : decode cL_law 3 = .ok (.dup, 1) := by decide +kernel
theorem dL_law_4 : decode cL_law 4 = .ok (.invokespecial 9, 3) := by decide +kernel
theorem dL_law_7 : decode cL_law 7 = .ok (.astore_n 1, 1) := by decide +kernel
theorem dL_law_8 : decode cL_law 8 = .ok (.new 10, 3) := by decide +kernel
theorem dL_law_11 : decode cL_law 11 = .ok (.dup, 1) := by decide +kernel
theorem dL_law_12 : decode cL_law 12 = .ok (.invokespecial 12, 3) := by decide +kernel
theorem dL_law_15 : decode cL_law 15 = .ok (.astore_n 2, 1) := by decide +kernel
theorem dL_law_16 : decode cL_law 16 = .ok (.iconst 0, 1) := by decide +kernel
theorem dL_law_17 : decode cL_law 17 = .ok (.istore_n 3, 1) := by decide +kernel
theorem dL_law_18 : decode cL_law 18 = .ok (.iload_n 3, 1) := by decide +kernel
theorem dL_law_19 : decode cL_law 19 = .ok (.aload_n 0, 1) := by decide +kernel
theorem dL_law_20 : decode cL_law 20 = .ok (.arraylength, 1) := by decide +kernel
theorem dL_law_21 : decode cL_law 21 = .ok (.iconst 4, 1) := by decide +kernel
theorem dL_law_22 : decode cL_law 22 = .ok (.isub, 1) := by decide +kernel
theorem dL_law_23 : decode cL_law 23 = .ok (.if_icmp .gt 357, 3) := by decide +kernel
theorem dL_law_26 : decode cL_law 26 = .ok (.aload_n 0, 1) := by decide +kernel
theorem dL_law_27 : decode cL_law 27 = .ok (.iload_n 3, 1) := by decide +kernel
theorem dL_law_28 : decode cL_law 28 = .ok (.iaload, 1) := by decide +kernel
theorem dL_law_29 : decode cL_law 29 = .ok (.bipush 15, 2) := by decide +kernel
theorem dL_law_31 : decode cL_law 31 = .ok (.iand, 1) := by decide +kernel
theorem dL_law_32 : decode cL_law 32 = .ok (.tableswitch 342 0 9 #[56, 67, 90, 144, 198, 237, 280, 293, 316, 329], 56) := by decide +kernel
theorem dL_law_88 : decode cL_law 88 = .ok (.aload_n 1, 1) := by decide +kernel
theorem dL_law_89 : decode cL_law 89 = .ok (.invokevirtual 13, 3) := by decide +kernel
theorem dL_law_92 : decode cL_law 92 = .ok (.aload_n 2, 1) := by decide +kernel
theorem dL_law_93 : decode cL_law 93 = .ok (.invokevirtual 16, 3) := by decide +kernel
theorem dL_law_96 : decode cL_law 96 = .ok (.goto 278, 3) := by decide +kernel
theorem dL_law_99 : decode cL_law 99 = .ok (.aload_n 1, 1) := by decide +kernel
theorem dL_law_100 : decode cL_law 100 = .ok (.aload_n 0, 1) := by decide +kernel
theorem dL_law_101 : decode cL_law 101 = .ok (.iload_n 3, 1) := by decide +kernel
theorem dL_law_102 : decode cL_law 102 = .ok (.iconst 1, 1) := by decide +kernel
theorem dL_law_103 : decode cL_law 103 = .ok (.iadd, 1) := by decide +kernel
theorem dL_law_104 : decode cL_law 104 = .ok (.iaload, 1) := by decide +kernel
theorem dL_law_105 : decode cL_law 105 = .ok (.invokevirtual 17, 3) := by decide +kernel
theorem dL_law_108 : decode cL_law 108 = .ok (.aload_n 2, 1) := by decide +kernel
theorem dL_law_109 : decode cL_law 109 = .ok (.aload_n 0, 1) := by decide +kernel
theorem dL_law_110 : decode cL_law 110 = .ok (.iload_n 3, 1) := by decide +kernel
theorem dL_law_111 : decode cL_law 111 = .ok (.iconst 1, 1) := by decide +kernel
theorem dL_law_112 : decode cL_law 112 = .ok (.iadd, 1) := by decide +kernel
theorem dL_law_113 : decode cL_law 113 = .ok (.iaload, 1) := by decide +kernel
theorem dL_law_114 : decode cL_law 114 = .ok (.invokevirtual 21, 3) := by decide +kernel
theorem dL_law_117 : decode cL_law 117 = .ok (.if_icmp .eq 257, 3) := by decide +kernel
theorem dL_law_120 : decode cL_law 120 = .ok (.iconst 0, 1) := by decide +kernel
theorem dL_law_121 : decode cL_law 121 = .ok (.ireturn, 1) := by decide +kernel
theorem dL_law_122 : decode cL_law 122 = .ok (.aload_n 1, 1) := by decide +kernel
theorem dL_law_123 : decode cL_law 123 = .ok (.aload_n 0, 1) := by decide +kernel
theorem dL_law_124 : decode cL_law 124 = .ok (.iload_n 3, 1) := by decide +kernel
theorem dL_law_125 : decode cL_law 125 = .ok (.iconst 1, 1) := by decide +kernel
theorem dL_law_126 : decode cL_law 126 = .ok (.iadd, 1) := by decide +kernel
theorem dL_law_127 : decode cL_law 127 = .ok (.iaload, 1) := by decide +kernel
theorem dL_law_128 : decode cL_law 128 = .ok (.i2l, 1) := by decide +kernel
theorem dL_law_129 : decode cL_law 129 = .ok (.bipush 32, 2) := by decide +kernel
theorem dL_law_131 : decode cL_law 131 = .ok (.lshl, 1) := by decide +kernel
theorem dL_law_132 : decode cL_law 132 = .ok (.aload_n 0, 1) := by decide +kernel
theorem dL_law_133 : decode cL_law 133 = .ok (.iload_n 3, 1) := by decide +kernel
theorem dL_law_134 : decode cL_law 134 = .ok (.iconst 2, 1) := by decide +kernel
theorem dL_law_135 : decode cL_law 135 = .ok (.iadd, 1) := by decide +kernel
theorem dL_law_136 : decode cL_law 136 = .ok (.iaload, 1) := by decide +kernel
theorem dL_law_137 : decode cL_law 137 = .ok (.i2l, 1) := by decide +kernel
theorem dL_law_138 : decode cL_law 138 = .ok (.ldc2_w 22, 3) := by decide +kernel
theorem dL_law_141 : decode cL_law 141 = .ok (.land, 1) := by decide +kernel
theorem dL_law_142 : decode cL_law 142 = .ok (.lor, 1) := by decide +kernel
theorem dL_law_143 : decode cL_law 143 = .ok (.invokevirtual 24, 3) := by decide +kernel
theorem dL_law_146 : decode cL_law 146 = .ok (.aload_n 2, 1) := by decide +kernel
theorem dL_law_147 : decode cL_law 147 = .ok (.aload_n 0, 1) := by decide +kernel
theorem dL_law_148 : decode cL_law 148 = .ok (.iload_n 3, 1) := by decide +kernel
theorem dL_law_149 : decode cL_law 149 = .ok (.iconst 1, 1) := by decide +kernel
theorem dL_law_150 : decode cL_law 150 = .ok (.iadd, 1) := by decide +kernel
theorem dL_law_151 : decode cL_law 151 = .ok (.iaload, 1) := by decide +kernel
theorem dL_law_152 : decode cL_law 152 = .ok (.i2l, 1) := by decide +kernel
theorem dL_law_153 : decode cL_law 153 = .ok (.bipush 32, 2) := by decide +kernel
theorem dL_law_155 : decode cL_law 155 = .ok (.lshl, 1) := by decide +kernel
theorem dL_law_156 : decode cL_law 156 = .ok (.aload_n 0, 1) := by decide +kernel
theorem dL_law_157 : decode cL_law 157 = .ok (.iload_n 3, 1) := by decide +kernel
theorem dL_law_158 : decode cL_law 158 = .ok (.iconst 2, 1) := by decide +kernel
theorem dL_law_159 : decode cL_law 159 = .ok (.iadd, 1) := by decide +kernel
theorem dL_law_160 : decode cL_law 160 = .ok (.iaload, 1) := by decide +kernel
theorem dL_law_161 : decode cL_law 161 = .ok (.i2l, 1) := by decide +kernel
theorem dL_law_162 : decode cL_law 162 = .ok (.ldc2_w 22, 3) := by decide +kernel
theorem dL_law_165 : decode cL_law 165 = .ok (.land, 1) := by decide +kernel
theorem dL_law_166 : decode cL_law 166 = .ok (.lor, 1) := by decide +kernel
theorem dL_law_167 : decode cL_law 167 = .ok (.invokevirtual 28, 3) := by decide +kernel
theorem dL_law_170 : decode cL_law 170 = .ok (.lcmp, 1) := by decide +kernel
theorem dL_law_171 : decode cL_law 171 = .ok (.ifCond .eq 203, 3) := by decide +kernel
theorem dL_law_174 : decode cL_law 174 = .ok (.iconst 0, 1) := by decide +kernel
theorem dL_law_175 : decode cL_law 175 = .ok (.ireturn, 1) := by decide +kernel
theorem dL_law_176 : decode cL_law 176 = .ok (.aload_n 1, 1) := by decide +kernel
theorem dL_law_177 : decode cL_law 177 = .ok (.aload_n 0, 1) := by decide +kernel
theorem dL_law_178 : decode cL_law 178 = .ok (.iload_n 3, 1) := by decide +kernel
theorem dL_law_179 : decode cL_law 179 = .ok (.iconst 1, 1) := by decide +kernel
theorem dL_law_180 : decode cL_law 180 = .ok (.iadd, 1) := by decide +kernel
theorem dL_law_181 : decode cL_law 181 = .ok (.iaload, 1) := by decide +kernel
theorem dL_law_182 : decode cL_law 182 = .ok (.i2l, 1) := by decide +kernel
theorem dL_law_183 : decode cL_law 183 = .ok (.bipush 32, 2) := by decide +kernel
theorem dL_law_185 : decode cL_law 185 = .ok (.lshl, 1) := by decide +kernel
theorem dL_law_186 : decode cL_law 186 = .ok (.aload_n 0, 1) := by decide +kernel
theorem dL_law_187 : decode cL_law 187 = .ok (.iload_n 3, 1) := by decide +kernel
theorem dL_law_188 : decode cL_law 188 = .ok (.iconst 2, 1) := by decide +kernel
theorem dL_law_189 : decode cL_law 189 = .ok (.iadd, 1) := by decide +kernel
theorem dL_law_190 : decode cL_law 190 = .ok (.iaload, 1) := by decide +kernel
theorem dL_law_191 : decode cL_law 191 = .ok (.i2l, 1) := by decide +kernel
theorem dL_law_192 : decode cL_law 192 = .ok (.ldc2_w 22, 3) := by decide +kernel
theorem dL_law_195 : decode cL_law 195 = .ok (.land, 1) := by decide +kernel
theorem dL_law_196 : decode cL_law 196 = .ok (.lor, 1) := by decide +kernel
theorem dL_law_197 : decode cL_law 197 = .ok (.invokevirtual 29, 3) := by decide +kernel
theorem dL_law_200 : decode cL_law 200 = .ok (.aload_n 2, 1) := by decide +kernel
theorem dL_law_201 : decode cL_law 201 = .ok (.aload_n 0, 1) := by decide +kernel
theorem dL_law_202 : decode cL_law 202 = .ok (.iload_n 3, 1) := by decide +kernel
theorem dL_law_203 : decode cL_law 203 = .ok (.iconst 1, 1) := by decide +kernel
theorem dL_law_204 : decode cL_law 204 = .ok (.iadd, 1) := by decide +kernel
theorem dL_law_205 : decode cL_law 205 = .ok (.iaload, 1) := by decide +kernel
theorem dL_law_206 : decode cL_law 206 = .ok (.i2l, 1) := by decide +kernel
theorem dL_law_207 : decode cL_law 207 = .ok (.bipush 32, 2) := by decide +kernel
theorem dL_law_209 : decode cL_law 209 = .ok (.lshl, 1) := by decide +kernel
theorem dL_law_210 : decode cL_law 210 = .ok (.aload_n 0, 1) := by decide +kernel
theorem dL_law_211 : decode cL_law 211 = .ok (.iload_n 3, 1) := by decide +kernel
theorem dL_law_212 : decode cL_law 212 = .ok (.iconst 2, 1) := by decide +kernel
theorem dL_law_213 : decode cL_law 213 = .ok (.iadd, 1) := by decide +kernel
theorem dL_law_214 : decode cL_law 214 = .ok (.iaload, 1) := by decide +kernel
theorem dL_law_215 : decode cL_law 215 = .ok (.i2l, 1) := by decide +kernel
theorem dL_law_216 : decode cL_law 216 = .ok (.ldc2_w 22, 3) := by decide +kernel
theorem dL_law_219 : decode cL_law 219 = .ok (.land, 1) := by decide +kernel
theorem dL_law_220 : decode cL_law 220 = .ok (.lor, 1) := by decide +kernel
theorem dL_law_221 : decode cL_law 221 = .ok (.invokevirtual 32, 3) := by decide +kernel
theorem dL_law_224 : decode cL_law 224 = .ok (.lcmp, 1) := by decide +kernel
theorem dL_law_225 : decode cL_law 225 = .ok (.ifCond .eq 149, 3) := by decide +kernel
theorem dL_law_228 : decode cL_law 228 = .ok (.iconst 0, 1) := by decide +kernel
theorem dL_law_229 : decode cL_law 229 = .ok (.ireturn, 1) := by decide +kernel
theorem dL_law_230 : decode cL_law 230 = .ok (.aload_n 1, 1) := by decide +kernel
theorem dL_law_231 : decode cL_law 231 = .ok (.aload_n 0, 1) := by decide +kernel
theorem dL_law_232 : decode cL_law 232 = .ok (.iload_n 3, 1) := by decide +kernel
theorem dL_law_233 : decode cL_law 233 = .ok (.iconst 1, 1) := by decide +kernel
theorem dL_law_234 : decode cL_law 234 = .ok (.iadd, 1) := by decide +kernel
theorem dL_law_235 : decode cL_law 235 = .ok (.iaload, 1) := by decide +kernel
theorem dL_law_236 : decode cL_law 236 = .ok (.ifCond .eq 7, 3) := by decide +kernel
theorem dL_law_239 : decode cL_law 239 = .ok (.iconst 1, 1) := by decide +kernel
theorem dL_law_240 : decode cL_law 240 = .ok (.goto 4, 3) := by decide +kernel
theorem dL_law_243 : decode cL_law 243 = .ok (.iconst 0, 1) := by decide +kernel
theorem dL_law_244 : decode cL_law 244 = .ok (.invokevirtual 33, 3) := by decide +kernel
theorem dL_law_247 : decode cL_law 247 = .ok (.aload_n 2, 1) := by decide +kernel
theorem dL_law_248 : decode cL_law 248 = .ok (.aload_n 0, 1) := by decide +kernel
theorem dL_law_249 : decode cL_law 249 = .ok (.iload_n 3, 1) := by decide +kernel
theorem dL_law_250 : decode cL_law 250 = .ok (.iconst 1, 1) := by decide +kernel
theorem dL_law_251 : decode cL_law 251 = .ok (.iadd, 1) := by decide +kernel
theorem dL_law_252 : decode cL_law 252 = .ok (.iaload, 1) := by decide +kernel
theorem dL_law_253 : decode cL_law 253 = .ok (.ifCond .eq 7, 3) := by decide +kernel
theorem dL_law_256 : decode cL_law 256 = .ok (.iconst 1, 1) := by decide +kernel
theorem dL_law_257 : decode cL_law 257 = .ok (.goto 4, 3) := by decide +kernel
theorem dL_law_260 : decode cL_law 260 = .ok (.iconst 0, 1) := by decide +kernel
theorem dL_law_261 : decode cL_law 261 = .ok (.invokevirtual 37, 3) := by decide +kernel
theorem dL_law_264 : decode cL_law 264 = .ok (.if_icmp .eq 110, 3) := by decide +kernel
theorem dL_law_267 : decode cL_law 267 = .ok (.iconst 0, 1) := by decide +kernel
theorem dL_law_268 : decode cL_law 268 = .ok (.ireturn, 1) := by decide +kernel
theorem dL_law_269 : decode cL_law 269 = .ok (.aload_n 1, 1) := by decide +kernel
theorem dL_law_270 : decode cL_law 270 = .ok (.aload_n 0, 1) := by decide +kernel
theorem dL_law_271 : decode cL_law 271 = .ok (.iload_n 3, 1) := by decide +kernel
theorem dL_law_272 : decode cL_law 272 = .ok (.iconst 1, 1) := by decide +kernel
theorem dL_law_273 : decode cL_law 273 = .ok (.iadd, 1) := by decide +kernel
theorem dL_law_274 : decode cL_law 274 = .ok (.iaload, 1) := by decide +kernel
theorem dL_law_275 : decode cL_law 275 = .ok (.aload_n 0, 1) := by decide +kernel
theorem dL_law_276 : decode cL_law 276 = .ok (.iload_n 3, 1) := by decide +kernel
theorem dL_law_277 : decode cL_law 277 = .ok (.iconst 2, 1) := by decide +kernel
theorem dL_law_278 : decode cL_law 278 = .ok (.iadd, 1) := by decide +kernel
theorem dL_law_279 : decode cL_law 279 = .ok (.iaload, 1) := by decide +kernel
theorem dL_law_280 : decode cL_law 280 = .ok (.aload_n 0, 1) := by decide +kernel
theorem dL_law_281 : decode cL_law 281 = .ok (.iload_n 3, 1) := by decide +kernel
theorem dL_law_282 : decode cL_law 282 = .ok (.iconst 3, 1) := by decide +kernel
theorem dL_law_283 : decode cL_law 283 = .ok (.iadd, 1) := by decide +kernel
theorem dL_law_284 : decode cL_law 284 = .ok (.iaload, 1) := by decide +kernel
theorem dL_law_285 : decode cL_law 285 = .ok (.invokevirtual 38, 3) := by decide +kernel
theorem dL_law_288 : decode cL_law 288 = .ok (.aload_n 2, 1) := by decide +kernel
theorem dL_law_289 : decode cL_law 289 = .ok (.aload_n 0, 1) := by decide +kernel
theorem dL_law_290 : decode cL_law 290 = .ok (.iload_n 3, 1) := by decide +kernel
theorem dL_law_291 : decode cL_law 291 = .ok (.iconst 1, 1) := by decide +kernel
theorem dL_law_292 : decode cL_law 292 = .ok (.iadd, 1) := by decide +kernel
theorem dL_law_293 : decode cL_law 293 = .ok (.iaload, 1) := by decide +kernel
theorem dL_law_294 : decode cL_law 294 = .ok (.aload_n 0, 1) := by decide +kernel
theorem dL_law_295 : decode cL_law 295 = .ok (.iload_n 3, 1) := by decide +kernel
theorem dL_law_296 : decode cL_law 296 = .ok (.iconst 2, 1) := by decide +kernel
theorem dL_law_297 : decode cL_law 297 = .ok (.iadd, 1) := by decide +kernel
theorem dL_law_298 : decode cL_law 298 = .ok (.iaload, 1) := by decide +kernel
theorem dL_law_299 : decode cL_law 299 = .ok (.aload_n 0, 1) := by decide +kernel
theorem dL_law_300 : decode cL_law 300 = .ok (.iload_n 3, 1) := by decide +kernel
theorem dL_law_301 : decode cL_law 301 = .ok (.iconst 3, 1) := by decide +kernel
theorem dL_law_302 : decode cL_law 302 = .ok (.iadd, 1) := by decide +kernel
theorem dL_law_303 : decode cL_law 303 = .ok (.iaload, 1) := by decide +kernel
theorem dL_law_304 : decode cL_law 304 = .ok (.invokevirtual 42, 3) := by decide +kernel
theorem dL_law_307 : decode cL_law 307 = .ok (.if_icmp .eq 67, 3) := by decide +kernel
theorem dL_law_310 : decode cL_law 310 = .ok (.iconst 0, 1) := by decide +kernel
theorem dL_law_311 : decode cL_law 311 = .ok (.ireturn, 1) := by decide +kernel
theorem dL_law_312 : decode cL_law 312 = .ok (.aload_n 1, 1) := by decide +kernel
theorem dL_law_313 : decode cL_law 313 = .ok (.invokevirtual 43, 3) := by decide +kernel
theorem dL_law_316 : decode cL_law 316 = .ok (.aload_n 2, 1) := by decide +kernel
theorem dL_law_317 : decode cL_law 317 = .ok (.invokevirtual 47, 3) := by decide +kernel
theorem dL_law_320 : decode cL_law 320 = .ok (.if_icmp .eq 54, 3) := by decide +kernel
theorem dL_law_323 : decode cL_law 323 = .ok (.iconst 0, 1) := by decide +kernel
theorem dL_law_324 : decode cL_law 324 = .ok (.ireturn, 1) := by decide +kernel
theorem dL_law_325 : decode cL_law 325 = .ok (.aload_n 1, 1) := by decide +kernel
theorem dL_law_326 : decode cL_law 326 = .ok (.aload_n 0, 1) := by decide +kernel
theorem dL_law_327 : decode cL_law 327 = .ok (.iload_n 3, 1) := by decide +kernel
theorem dL_law_328 : decode cL_law 328 = .ok (.iconst 1, 1) := by decide +kernel
theorem dL_law_329 : decode cL_law 329 = .ok (.iadd, 1) := by decide +kernel
theorem dL_law_330 : decode cL_law 330 = .ok (.iaload, 1) := by decide +kernel
theorem dL_law_331 : decode cL_law 331 = .ok (.invokevirtual 48, 3) := by decide +kernel
theorem dL_law_334 : decode cL_law 334 = .ok (.aload_n 2, 1) := by decide +kernel
theorem dL_law_335 : decode cL_law 335 = .ok (.aload_n 0, 1) := by decide +kernel
theorem dL_law_336 : decode cL_law 336 = .ok (.iload_n 3, 1) := by decide +kernel
theorem dL_law_337 : decode cL_law 337 = .ok (.iconst 1, 1) := by decide +kernel
theorem dL_law_338 : decode cL_law 338 = .ok (.iadd, 1) := by decide +kernel
theorem dL_law_339 : decode cL_law 339 = .ok (.iaload, 1) := by decide +kernel
theorem dL_law_340 : decode cL_law 340 = .ok (.invokevirtual 51, 3) := by decide +kernel
theorem dL_law_343 : decode cL_law 343 = .ok (.if_icmp .eq 31, 3) := by decide +kernel
theorem dL_law_346 : decode cL_law 346 = .ok (.iconst 0, 1) := by decide +kernel
theorem dL_law_347 : decode cL_law 347 = .ok (.ireturn, 1) := by decide +kernel
theorem dL_law_348 : decode cL_law 348 = .ok (.aload_n 1, 1) := by decide +kernel
theorem dL_law_349 : decode cL_law 349 = .ok (.invokevirtual 52, 3) := by decide +kernel
theorem dL_law_352 : decode cL_law 352 = .ok (.aload_n 2, 1) := by decide +kernel
theorem dL_law_353 : decode cL_law 353 = .ok (.invokevirtual 55, 3) := by decide +kernel
theorem dL_law_356 : decode cL_law 356 = .ok (.if_icmp .eq 18, 3) := by decide +kernel
theorem dL_law_359 : decode cL_law 359 = .ok (.iconst 0, 1) := by decide +kernel
theorem dL_law_360 : decode cL_law 360 = .ok (.ireturn, 1) := by decide +kernel
theorem dL_law_361 : decode cL_law 361 = .ok (.aload_n 1, 1) := by decide +kernel
theorem dL_law_362 : decode cL_law 362 = .ok (.invokevirtual 56, 3) := by decide +kernel
theorem dL_law_365 : decode cL_law 365 = .ok (.aload_n 2, 1) := by decide +kernel
theorem dL_law_366 : decode cL_law 366 = .ok (.invokevirtual 59, 3) := by decide +kernel
theorem dL_law_369 : decode cL_law 369 = .ok (.if_icmp .eq 5, 3) := by decide +kernel
theorem dL_law_372 : decode cL_law 372 = .ok (.iconst 0, 1) := by decide +kernel
theorem dL_law_373 : decode cL_law 373 = .ok (.ireturn, 1) := by decide +kernel
theorem dL_law_374 : decode cL_law 374 = .ok (.iinc 3 4, 3) := by decide +kernel
theorem dL_law_377 : decode cL_law 377 = .ok (.goto (-359), 3) := by decide +kernel
theorem dL_law_380 : decode cL_law 380 = .ok (.iconst 1, 1) := by decide +kernel
theorem dL_law_381 : decode cL_law 381 = .ok (.ireturn, 1) := by decide +kernel
abbrev vwCl : List vw_C := [(RX0, TX0, 6), (RX1, TX1, 6)]
end
section
/-! the reference's firstOf and due, which the printed names leave out: by a program of my own, out of the listing -/
abbrev cX1_firstOf : ByteArray := prog_3_method_21_code
def yX1_firstOf : MethodName := ⟨RX1, "firstOf", "(IIII)I"⟩
abbrev cX1_due : ByteArray := prog_3_method_22_code
def yX1_due : MethodName := ⟨RX1, "due", "()I"⟩
def wsX1_firstOf : List Cond := .code yX1_firstOf cX1_firstOf 4 (some .int) :: ([])
def wsX1_due : List Cond := .code yX1_due cX1_due 6 (some .int) :: ([.fieldLink RX1 7 "ControlFileModel" "kept" "[I", .fieldLink RX1 16 "ControlFileModel" "mode" "I", .methodLink RX1 68 yX1_tells, .instanceMethod yX1_tells, .selects RX1 yX1_tells yX1_tells, .initialized RX1, .code yX1_tells cX1_tells 2 (some .int), .fieldLink RX1 20 "ControlFileModel" "time" "J", .fieldLink RX1 26 "ControlFileModel" "alarm" "J", .fieldLink RX1 29 "ControlFileModel" "line" "Z", .methodLink RX1 75 yX1_firstOf, .static yX1_firstOf, .code yX1_firstOf cX1_firstOf 4 (some .int), .methodLink RX1 57 yX1_has, .instanceMethod yX1_has, .selects RX1 yX1_has yX1_has, .code yX1_has cX1_has 3 (some .boolean)] ++ wsX10)
set_option maxRecDepth 20000 in
theorem gX1_due_X1_tells : GoodIn wsX1_due (wsV RX1 68 RX1 yX1_tells wsX1_tells) := goodIn_p _ [7] rfl (by decide +kernel)
set_option maxRecDepth 20000 in
theorem gX1_due_X1_firstOf : GoodIn wsX1_due (va_wsS RX1 75 yX1_firstOf wsX1_firstOf) := goodIn_p _ [13] rfl (by decide +kernel)
set_option maxRecDepth 20000 in
theorem gX1_due_X1_has : GoodIn wsX1_due (wsV RX1 57 RX1 yX1_has wsX1_has) := goodIn_p _ [17] rfl (by decide +kernel)
set_option maxRecDepth 20000 in
theorem gL_law_X1_due : GoodIn lw_tbl (wsV RL 59 RX1 yX1_due wsX1_due) := goodIn_p _ [255, 223, 258, 219] (by decide +kernel) (by decide +kernel)
theorem dX1_firstOf_0 : decode cX1_firstOf 0 = .ok (.iload_n 0, 1) := by decide +kernel
theorem dX1_firstOf_1 : decode cX1_firstOf 1 = .ok (.iload_n 1, 1) := by decide +kernel
theorem dX1_firstOf_2 : decode cX1_firstOf 2 = .ok (.ishr, 1) := by decide +kernel
theorem dX1_firstOf_3 : decode cX1_firstOf 3 = .ok (.iconst 1, 1) := by decide +kernel
theorem dX1_firstOf_4 : decode cX1_firstOf 4 = .ok (.iand, 1) := by decide +kernel
theorem dX1_firstOf_5 : decode cX1_firstOf 5 = .ok (.iconst 1, 1) := by decide +kernel
theorem dX1_firstOf_6 : decode cX1_firstOf 6 = .ok (.if_icmp .ne 7, 3) := by decide +kernel
theorem dX1_firstOf_9 : decode cX1_firstOf 9 = .ok (.iload_n 1, 1) := by decide +kernel
theorem dX1_firstOf_10 : decode cX1_firstOf 10 = .ok (.goto 30, 3) := by decide +kernel
theorem dX1_firstOf_13 : decode cX1_firstOf 13 = .ok (.iload_n 0, 1) := by decide +kernel
theorem dX1_firstOf_14 : decode cX1_firstOf 14 = .ok (.iload_n 2, 1) := by decide +kernel
theorem dX1_firstOf_15 : decode cX1_firstOf 15 = .ok (.ishr, 1) := by decide +kernel
theorem dX1_firstOf_16 : decode cX1_firstOf 16 = .ok (.iconst 1, 1) := by decide +kernel
theorem dX1_firstOf_17 : decode cX1_firstOf 17 = .ok (.iand, 1) := by decide +kernel
theorem dX1_firstOf_18 : decode cX1_firstOf 18 = .ok (.iconst 1, 1) := by decide +kernel
theorem dX1_firstOf_19 : decode cX1_firstOf 19 = .ok (.if_icmp .ne 7, 3) := by decide +kernel
theorem dX1_firstOf_22 : decode cX1_firstOf 22 = .ok (.iload_n 2, 1) := by decide +kernel
theorem dX1_firstOf_23 : decode cX1_firstOf 23 = .ok (.goto 17, 3) := by decide +kernel
theorem dX1_firstOf_26 : decode cX1_firstOf 26 = .ok (.iload_n 0, 1) := by decide +kernel
theorem dX1_firstOf_27 : decode cX1_firstOf 27 = .ok (.iload_n 3, 1) := by decide +kernel
theorem dX1_firstOf_28 : decode cX1_firstOf 28 = .ok (.ishr, 1) := by decide +kernel
theorem dX1_firstOf_29 : decode cX1_firstOf 29 = .ok (.iconst 1, 1) := by decide +kernel
theorem dX1_firstOf_30 : decode cX1_firstOf 30 = .ok (.iand, 1) := by decide +kernel
theorem dX1_firstOf_31 : decode cX1_firstOf 31 = .ok (.iconst 1, 1) := by decide +kernel
theorem dX1_firstOf_32 : decode cX1_firstOf 32 = .ok (.if_icmp .ne 7, 3) := by decide +kernel
theorem dX1_firstOf_35 : decode cX1_firstOf 35 = .ok (.iload_n 3, 1) := by decide +kernel
theorem dX1_firstOf_36 : decode cX1_firstOf 36 = .ok (.goto 4, 3) := by decide +kernel
theorem dX1_firstOf_39 : decode cX1_firstOf 39 = .ok (.iconst (-1), 1) := by decide +kernel
theorem dX1_firstOf_40 : decode cX1_firstOf 40 = .ok (.ireturn, 1) := by decide +kernel
theorem dX1_due_0 : decode cX1_due 0 = .ok (.aload_n 0, 1) := by decide +kernel
theorem dX1_due_1 : decode cX1_due 1 = .ok (.bipush 7, 2) := by decide +kernel
theorem dX1_due_3 : decode cX1_due 3 = .ok (.invokevirtual 68, 3) := by decide +kernel
theorem dX1_due_6 : decode cX1_due 6 = .ok (.aload_n 0, 1) := by decide +kernel
theorem dX1_due_7 : decode cX1_due 7 = .ok (.getfield 7, 3) := by decide +kernel
theorem dX1_due_10 : decode cX1_due 10 = .ok (.iconst 1, 1) := by decide +kernel
theorem dX1_due_11 : decode cX1_due 11 = .ok (.iaload, 1) := by decide +kernel
theorem dX1_due_12 : decode cX1_due 12 = .ok (.iand, 1) := by decide +kernel
theorem dX1_due_13 : decode cX1_due 13 = .ok (.bipush 9, 2) := by decide +kernel
theorem dX1_due_15 : decode cX1_due 15 = .ok (.iconst 1, 1) := by decide +kernel
theorem dX1_due_16 : decode cX1_due 16 = .ok (.iconst 5, 1) := by decide +kernel
theorem dX1_due_17 : decode cX1_due 17 = .ok (.invokestatic 75, 3) := by decide +kernel
theorem dX1_due_20 : decode cX1_due 20 = .ok (.istore_n 1, 1) := by decide +kernel
theorem dX1_due_21 : decode cX1_due 21 = .ok (.aload_n 0, 1) := by decide +kernel
theorem dX1_due_22 : decode cX1_due 22 = .ok (.getfield 7, 3) := by decide +kernel
theorem dX1_due_25 : decode cX1_due 25 = .ok (.bipush 24, 2) := by decide +kernel
theorem dX1_due_27 : decode cX1_due 27 = .ok (.iaload, 1) := by decide +kernel
theorem dX1_due_28 : decode cX1_due 28 = .ok (.aload_n 0, 1) := by decide +kernel
theorem dX1_due_29 : decode cX1_due 29 = .ok (.getfield 7, 3) := by decide +kernel
theorem dX1_due_32 : decode cX1_due 32 = .ok (.bipush 21, 2) := by decide +kernel
theorem dX1_due_34 : decode cX1_due 34 = .ok (.iaload, 1) := by decide +kernel
theorem dX1_due_35 : decode cX1_due 35 = .ok (.iand, 1) := by decide +kernel
theorem dX1_due_36 : decode cX1_due 36 = .ok (.aload_n 0, 1) := by decide +kernel
theorem dX1_due_37 : decode cX1_due 37 = .ok (.getfield 7, 3) := by decide +kernel
theorem dX1_due_40 : decode cX1_due 40 = .ok (.bipush 20, 2) := by decide +kernel
theorem dX1_due_42 : decode cX1_due 42 = .ok (.iaload, 1) := by decide +kernel
theorem dX1_due_43 : decode cX1_due 43 = .ok (.iconst (-1), 1) := by decide +kernel
theorem dX1_due_44 : decode cX1_due 44 = .ok (.ixor, 1) := by decide +kernel
theorem dX1_due_45 : decode cX1_due 45 = .ok (.iand, 1) := by decide +kernel
theorem dX1_due_46 : decode cX1_due 46 = .ok (.bipush 10, 2) := by decide +kernel
theorem dX1_due_48 : decode cX1_due 48 = .ok (.iconst 2, 1) := by decide +kernel
theorem dX1_due_49 : decode cX1_due 49 = .ok (.bipush 6, 2) := by decide +kernel
theorem dX1_due_51 : decode cX1_due 51 = .ok (.invokestatic 75, 3) := by decide +kernel
theorem dX1_due_54 : decode cX1_due 54 = .ok (.istore_n 2, 1) := by decide +kernel
theorem dX1_due_55 : decode cX1_due 55 = .ok (.aload_n 0, 1) := by decide +kernel
theorem dX1_due_56 : decode cX1_due 56 = .ok (.getfield 16, 3) := by decide +kernel
theorem dX1_due_59 : decode cX1_due 59 = .ok (.iconst 1, 1) := by decide +kernel
theorem dX1_due_60 : decode cX1_due 60 = .ok (.if_icmp .ne 12, 3) := by decide +kernel
theorem dX1_due_63 : decode cX1_due 63 = .ok (.aload_n 0, 1) := by decide +kernel
theorem dX1_due_64 : decode cX1_due 64 = .ok (.iconst 0, 1) := by decide +kernel
theorem dX1_due_65 : decode cX1_due 65 = .ok (.iconst 1, 1) := by decide +kernel
theorem dX1_due_66 : decode cX1_due 66 = .ok (.invokevirtual 57, 3) := by decide +kernel
theorem dX1_due_69 : decode cX1_due 69 = .ok (.ifCond .eq 7, 3) := by decide +kernel
theorem dX1_due_72 : decode cX1_due 72 = .ok (.iconst 1, 1) := by decide +kernel
theorem dX1_due_73 : decode cX1_due 73 = .ok (.goto 4, 3) := by decide +kernel
theorem dX1_due_76 : decode cX1_due 76 = .ok (.iconst 0, 1) := by decide +kernel
theorem dX1_due_77 : decode cX1_due 77 = .ok (.istore_n 3, 1) := by decide +kernel
theorem dX1_due_78 : decode cX1_due 78 = .ok (.iload_n 3, 1) := by decide +kernel
theorem dX1_due_79 : decode cX1_due 79 = .ok (.ifCond .eq 24, 3) := by decide +kernel
theorem dX1_due_82 : decode cX1_due 82 = .ok (.iload_n 1, 1) := by decide +kernel
theorem dX1_due_83 : decode cX1_due 83 = .ok (.iconst (-1), 1) := by decide +kernel
theorem dX1_due_84 : decode cX1_due 84 = .ok (.if_icmp .ne 8, 3) := by decide +kernel
theorem dX1_due_87 : decode cX1_due 87 = .ok (.iload_n 2, 1) := by decide +kernel
theorem dX1_due_88 : decode cX1_due 88 = .ok (.iconst (-1), 1) := by decide +kernel
theorem dX1_due_89 : decode cX1_due 89 = .ok (.if_icmp .eq 14, 3) := by decide +kernel
theorem dX1_due_92 : decode cX1_due 92 = .ok (.iload_n 1, 1) := by decide +kernel
theorem dX1_due_93 : decode cX1_due 93 = .ok (.iconst (-1), 1) := by decide +kernel
theorem dX1_due_94 : decode cX1_due 94 = .ok (.if_icmp .eq 7, 3) := by decide +kernel
theorem dX1_due_97 : decode cX1_due 97 = .ok (.iload_n 1, 1) := by decide +kernel
theorem dX1_due_98 : decode cX1_due 98 = .ok (.goto 4, 3) := by decide +kernel
theorem dX1_due_101 : decode cX1_due 101 = .ok (.iload_n 2, 1) := by decide +kernel
theorem dX1_due_102 : decode cX1_due 102 = .ok (.ireturn, 1) := by decide +kernel
theorem dX1_due_103 : decode cX1_due 103 = .ok (.aload_n 0, 1) := by decide +kernel
theorem dX1_due_104 : decode cX1_due 104 = .ok (.getfield 7, 3) := by decide +kernel
theorem dX1_due_107 : decode cX1_due 107 = .ok (.bipush 24, 2) := by decide +kernel
theorem dX1_due_109 : decode cX1_due 109 = .ok (.iaload, 1) := by decide +kernel
theorem dX1_due_110 : decode cX1_due 110 = .ok (.aload_n 0, 1) := by decide +kernel
theorem dX1_due_111 : decode cX1_due 111 = .ok (.getfield 7, 3) := by decide +kernel
theorem dX1_due_114 : decode cX1_due 114 = .ok (.bipush 21, 2) := by decide +kernel
theorem dX1_due_116 : decode cX1_due 116 = .ok (.iaload, 1) := by decide +kernel
theorem dX1_due_117 : decode cX1_due 117 = .ok (.iand, 1) := by decide +kernel
theorem dX1_due_118 : decode cX1_due 118 = .ok (.aload_n 0, 1) := by decide +kernel
theorem dX1_due_119 : decode cX1_due 119 = .ok (.getfield 7, 3) := by decide +kernel
theorem dX1_due_122 : decode cX1_due 122 = .ok (.bipush 20, 2) := by decide +kernel
theorem dX1_due_124 : decode cX1_due 124 = .ok (.iaload, 1) := by decide +kernel
theorem dX1_due_125 : decode cX1_due 125 = .ok (.iand, 1) := by decide +kernel
theorem dX1_due_126 : decode cX1_due 126 = .ok (.bipush 10, 2) := by decide +kernel
theorem dX1_due_128 : decode cX1_due 128 = .ok (.iconst 2, 1) := by decide +kernel
theorem dX1_due_129 : decode cX1_due 129 = .ok (.bipush 6, 2) := by decide +kernel
theorem dX1_due_131 : decode cX1_due 131 = .ok (.invokestatic 75, 3) := by decide +kernel
theorem dX1_due_134 : decode cX1_due 134 = .ok (.istore 4, 2) := by decide +kernel
theorem dX1_due_136 : decode cX1_due 136 = .ok (.aload_n 0, 1) := by decide +kernel
theorem dX1_due_137 : decode cX1_due 137 = .ok (.getfield 16, 3) := by decide +kernel
theorem dX1_due_140 : decode cX1_due 140 = .ok (.iconst 2, 1) := by decide +kernel
theorem dX1_due_141 : decode cX1_due 141 = .ok (.if_icmp .eq 21, 3) := by decide +kernel
theorem dX1_due_144 : decode cX1_due 144 = .ok (.aload_n 0, 1) := by decide +kernel
theorem dX1_due_145 : decode cX1_due 145 = .ok (.getfield 16, 3) := by decide +kernel
theorem dX1_due_148 : decode cX1_due 148 = .ok (.iconst 3, 1) := by decide +kernel
theorem dX1_due_149 : decode cX1_due 149 = .ok (.if_icmp .ne 17, 3) := by decide +kernel
theorem dX1_due_152 : decode cX1_due 152 = .ok (.aload_n 0, 1) := by decide +kernel
theorem dX1_due_153 : decode cX1_due 153 = .ok (.bipush 9, 2) := by decide +kernel
theorem dX1_due_155 : decode cX1_due 155 = .ok (.iconst 1, 1) := by decide +kernel
theorem dX1_due_156 : decode cX1_due 156 = .ok (.invokevirtual 57, 3) := by decide +kernel
theorem dX1_due_159 : decode cX1_due 159 = .ok (.ifCond .eq 7, 3) := by decide +kernel
theorem dX1_due_162 : decode cX1_due 162 = .ok (.iconst 1, 1) := by decide +kernel
theorem dX1_due_163 : decode cX1_due 163 = .ok (.goto 4, 3) := by decide +kernel
theorem dX1_due_166 : decode cX1_due 166 = .ok (.iconst 0, 1) := by decide +kernel
theorem dX1_due_167 : decode cX1_due 167 = .ok (.istore 5, 2) := by decide +kernel
theorem dX1_due_169 : decode cX1_due 169 = .ok (.iload 5, 2) := by decide +kernel
theorem dX1_due_171 : decode cX1_due 171 = .ok (.ifCond .eq 19, 3) := by decide +kernel
theorem dX1_due_174 : decode cX1_due 174 = .ok (.iload 4, 2) := by decide +kernel
theorem dX1_due_176 : decode cX1_due 176 = .ok (.iconst (-1), 1) := by decide +kernel
theorem dX1_due_177 : decode cX1_due 177 = .ok (.if_icmp .eq 13, 3) := by decide +kernel
theorem dX1_due_180 : decode cX1_due 180 = .ok (.bipush 100, 2) := by decide +kernel
theorem dX1_due_182 : decode cX1_due 182 = .ok (.iload 4, 2) := by decide +kernel
theorem dX1_due_184 : decode cX1_due 184 = .ok (.iadd, 1) := by decide +kernel
theorem dX1_due_185 : decode cX1_due 185 = .ok (.iconst 1, 1) := by decide +kernel
theorem dX1_due_186 : decode cX1_due 186 = .ok (.isub, 1) := by decide +kernel
theorem dX1_due_187 : decode cX1_due 187 = .ok (.goto 4, 3) := by decide +kernel
theorem dX1_due_190 : decode cX1_due 190 = .ok (.iconst (-1), 1) := by decide +kernel
theorem dX1_due_191 : decode cX1_due 191 = .ok (.ireturn, 1) := by decide +kernel
end
section
/-! WORDS FOR THE STATE, AND CALLS AND LOOPS IN THEM. cf_: the ControlFile; mf_: the reference (twin). -/
def cf_num (j : Nat) : Int32 := ([256, 260, 261, 320, 321, 322, 323, 324, 384, 512, 516, 517, 576, 577, 578, 579, 580, 640, 1536, 1538, 1539, 1540, 1603, 1604, 1605, 1610, 1664, 3073, 3201] : List Int32).getD j 0
def cf_keep (j : Nat) : Int32 := ([786722, 546, -3, -1, -4, -1, -1, 2, -2143289345, 786722, 0, -3, -1, -4, -1, -1, 0, -2143289345, 7340992, 45567, 1092, 1092, -1, 0, 1092, -1, -2143289348, 0, 0] : List Int32).getD j 0
def cf_so (j : Nat) : Int32 := ([9, 1, 5, 10, 2, 6] : List Int32).getD j 0
def cf_vo (j : Nat) : Int32 := ([10, 2, 6] : List Int32).getD j 0
/-- the four tables of the ControlFile: where they lie (z), what they hold, none of it in A -/
def cf_stat (A : Nat → Prop) (z : Nat → Nat) (U : State) (H : Heap) : Prop :=
  (va_Z RX0 "NUMBERS" "[I" (.ref (z 0)) A U H ∧ va_T .int (z 0) 29 (fun j => .int (cf_num j)) A U H) ∧
  (va_Z RX0 "KEEPS" "[I" (.ref (z 1)) A U H ∧ va_T .int (z 1) 29 (fun j => .int (cf_keep j)) A U H) ∧
  (va_Z RX0 "S_ORDER" "[I" (.ref (z 2)) A U H ∧ va_T .int (z 2) 6 (fun j => .int (cf_so j)) A U H) ∧
  (va_Z RX0 "VS_ORDER" "[I" (.ref (z 3)) A U H ∧ va_T .int (z 3) 3 (fun j => .int (cf_vo j)) A U H)
theorem cf_stat.moved {A : Nat → Prop} {z : Nat → Nat} {u U : State} {H : Heap} (hvm : u.vm.Alike U.vm) (h : cf_stat A z u H) : cf_stat A z U H :=
  ⟨⟨h.1.1.moved hvm, h.1.2.moved hvm⟩, ⟨h.2.1.1.moved hvm, h.2.1.2.moved hvm⟩, ⟨h.2.2.1.1.moved hvm, h.2.2.1.2.moved hvm⟩, ⟨h.2.2.2.1.moved hvm, h.2.2.2.2.moved hvm⟩⟩
theorem cf_stat.kept {A : Nat → Prop} {z : Nat → Nat} {U : State} {H H1 : Heap} (h : cf_stat A z U H) (hq : ∀ a : Nat, a < H.size → ¬ A a → H1[a]? = H[a]?) : cf_stat A z U H1 :=
  ⟨⟨h.1.1.kept hq, h.1.2.kept hq⟩, ⟨h.2.1.1.kept hq, h.2.1.2.kept hq⟩, ⟨h.2.2.1.1.kept hq, h.2.2.1.2.kept hq⟩, ⟨h.2.2.2.1.kept hq, h.2.2.2.2.kept hq⟩⟩
theorem cf_stat.narrow {A B : Nat → Prop} {z : Nat → Nat} {U : State} {H : Heap} (h : cf_stat A z U H) (hq : ∀ q, B q → A q) : cf_stat B z U H :=
  ⟨⟨h.1.1.narrow hq, h.1.2.narrow hq⟩, ⟨h.2.1.1.narrow hq, h.2.1.2.narrow hq⟩, ⟨h.2.2.1.1.narrow hq, h.2.2.1.2.narrow hq⟩, ⟨h.2.2.2.1.narrow hq, h.2.2.2.2.narrow hq⟩⟩
/-- the two cells of an object: ci its ControlFile in vwCl -/
abbrev cf_W (ci h0 h1 : Nat) (cA : ClassId) (k : Nat → Int32) (md : Int32) (tm al : Int64) (ln od : Int32) : va_W := [(h0, .inr (ci, [.ref h1, .int md, .long tm, .long al, .int ln, .int od])), (h1, .inl (cA, 29, .inl k))]
/-- the law's world: the ControlFile's object, the reference's, in one state -/
abbrev cf_L (q0 q1 : Nat) (cA : ClassId) (r0 r1 : Nat) (cB : ClassId) (k : Nat → Int32) (md : Int32) (tm al : Int64) (ln od : Int32) : va_W := [(q0, .inr (0, [.ref q1, .int md, .long tm, .long al, .int ln, .int od])), (q1, .inl (cA, 29, .inl k)), (r0, .inr (1, [.ref r1, .int md, .long tm, .long al, .int ln, .int od])), (r1, .inl (cB, 29, .inl k))]
/-- a reader's start -/
def cf_ro (av : List Value) (D : va_G) (wc : va_W) (tys : List (ClassId × FieldType)) (z : Nat → Nat) : Array Value → State → Prop := va_Pc av (fun U => va_P D vwCl wc U.heap ∧ va_K D vwCl tys U ∧ cf_stat (fun _ => False) z U U.heap)
theorem cf_ro_blind {av : List Value} {D : va_G} {wc : va_W} {tys : List (ClassId × FieldType)} {z : Nat → Nat} : FrameBlind (cf_ro av D wc tys z) := fun a U g mk q => by
  obtain ⟨q0, qP, qK, qZ⟩ := q
  exact ⟨q0, qP, va_K.moved (u := U) (U := U.calling g mk a) (Vm.Alike.refl U.vm) qK, cf_stat.moved (u := U) (U := U.calling g mk a) (Vm.Alike.refl U.vm) qZ⟩
theorem cf_ro_pre {av : List Value} {D : va_G} {wc : va_W} {tys : List (ClassId × FieldType)} {z : Nat → Nat} {A : Nat → Prop} {s : State} {H : Heap} {locs : List Loc} (hP : va_P D vwCl wc H) (hK : va_K D vwCl tys s) (hZ : cf_stat A z s s.heap) (hS : va_S A s.heap H locs) : ∀ U : State, U.heap = H → s.WarmedH U.vm → cf_ro av D wc tys z av.toArray U :=
  fun U hU hW => ⟨rfl, by rw [hU]; exact hP, va_K.moved hW.alike hK, by rw [hU]; exact cf_stat.moved hW.alike ((hZ.kept hS.2.1).narrow (fun _ h => h.elim))⟩
/-- a writer's start, its world behind it -/
def cf_wr (av : List Value) (D : va_G) (wc : va_W) (tys : List (ClassId × FieldType)) (sz : Nat) (z : Nat → Nat) : Array Value → State → Prop := va_Pc av (fun U => U.heap.size = sz ∧ va_P D vwCl wc U.heap ∧ va_K D vwCl tys U ∧ va_D (fun _ => True) wc ∧ cf_stat (va_A wc sz) z U U.heap)
theorem cf_wr_blind {av : List Value} {D : va_G} {wc : va_W} {tys : List (ClassId × FieldType)} {sz : Nat} {z : Nat → Nat} : FrameBlind (cf_wr av D wc tys sz z) := fun a U g mk q => by
  obtain ⟨q0, q1, qP, qK, qD, qZ⟩ := q
  exact ⟨q0, q1, qP, va_K.moved (u := U) (U := U.calling g mk a) (Vm.Alike.refl U.vm) qK, qD, cf_stat.moved (u := U) (U := U.calling g mk a) (Vm.Alike.refl U.vm) qZ⟩
theorem cf_wr_pre {av : List Value} {D : va_G} {wc : va_W} {tys : List (ClassId × FieldType)} {z : Nat → Nat} {A : Nat → Prop} {s : State} {H : Heap} {locs : List Loc} (hP : va_P D vwCl wc H) (hD : va_D A wc) (hK : va_K D vwCl tys s) (hZ : cf_stat A z s s.heap) (hS : va_S A s.heap H locs) (hF : ∀ q, va_A wc H.size q → A q) : ∀ U : State, U.heap = H → s.WarmedH U.vm → cf_wr av D wc tys H.size z av.toArray U :=
  fun U hU hW => ⟨rfl, by rw [hU], by rw [hU]; exact hP, va_K.moved hW.alike hK, hD.weaken (fun _ _ _ _ => trivial), by rw [hU]; exact cf_stat.moved hW.alike ((hZ.kept hS.2.1).narrow hF)⟩
def cf_B (D : va_G) (tys : List (ClassId × FieldType)) (A : Nat → Prop) (u : va_W) (t : State) : Prop := va_P D vwCl u t.heap ∧ va_K D vwCl tys t ∧ va_D A u
section CFK
variable {p : Program} {l : Launch} {e : Env} {R : Room} {s : State} {m : MethodId} {args : Array Value} {below : List Frame} {meth : Method} {c : Code} {H : Heap} {locs : List Loc} {cells slots : Nat} {Q : State → Prop}
variable {y : MethodName} {bytes cc : ByteArray} {maxL nL n index : Nat} {ret : Option FieldType} {ws : List Cond} {rm : Room} {Ts : List Cond} {own C : String} {b : Addr} {As rest st0 : List Value} {pc : Nat} {ls : Array Slot} {D : va_G} {w0 wc wr wF : va_W} {tys : List (ClassId × FieldType)} {z : Nat → Nat} {A : Nat → Prop} {ci q0 : Nat} {qc : vw_C} {fs : List Value}
/-- a reader of an object is called -/
theorem cf_callV {rF : Int32} (S : CallFix p m c cc nL s args Ts own) (hM : Met l y ws rm (cf_ro (.ref b :: As) D wc tys z) (vp_Si (fun r => r = rF)) 0 0 (fun _ => False)) (cw : CallW R s args own C index y bytes maxL ret ws rm 0 0 n)
    (hP : va_P D vwCl wc H) (hK : va_K D vwCl tys s) (hZ : cf_stat A z s s.heap) (hS : va_S A s.heap H locs) (hc : vwCl[ci]? = some qc) (hqC : qc.1 = C) (he : wc[q0]? = some (b, .inr (ci, fs)))
    (hn : As.length = n) (hsize : ls.size = nL) (hst : st0 = As.reverse ++ .ref b :: rest) (hW : (rest.map fun v => v.category).sum ≤ 8) (hdg : decode cc pc = .ok (.invokevirtual index, 3)) (hf : cells + 0 ≤ R.cells ∧ slots + 0 ≤ R.slots)
    (kk : W p l e R s m args below meth c H locs cells slots Q (F0 m (pc + 3) ls (.int rF :: rest))) : W p l e R s m args below meth c H locs cells slots Q (F0 m pc ls st0) := by
  subst hqC
  refine vp_callSi (W.runV (As := As) (rest := rest) S hM cw ⟨cf_ro_blind, va_recv hK hP hc he, cf_ro_pre hP hK hZ hS⟩ rfl hn hsize hst (lv_room hW) hdg hf) (fun r hr => ?_)
  have hr : r = rF := hr
  rw [hr]
  exact kk
/-- a static reader is called -/
theorem cf_callS {rF : Int32} (S : CallFix p m c cc nL s args Ts own) (hM : Met l y ws rm (cf_ro As D wc tys z) (vp_Si (fun r => r = rF)) 0 0 (fun _ => False)) (cw : CallB R s args own index y bytes maxL ret ws rm 0 0 n ∧ (Cond.static y).before args s = true)
    (hP : va_P D vwCl wc H) (hK : va_K D vwCl tys s) (hZ : cf_stat A z s s.heap) (hS : va_S A s.heap H locs)
    (hn : As.length = n) (hsize : ls.size = nL) (hst : st0 = As.reverse ++ rest) (hW : (rest.map fun v => v.category).sum ≤ 8) (hdg : decode cc pc = .ok (.invokestatic index, 3)) (hf : cells + 0 ≤ R.cells ∧ slots + 0 ≤ R.slots)
    (kk : W p l e R s m args below meth c H locs cells slots Q (F0 m (pc + 3) ls (.int rF :: rest))) : W p l e R s m args below meth c H locs cells slots Q (F0 m pc ls st0) := by
  refine vp_callSi (W.runS (As := As) (rest := rest) S hM cw ⟨cf_ro_blind, cf_ro_pre hP hK hZ hS⟩ rfl hn hsize hst (lv_room hW) hdg hf) (fun r hr => ?_)
  have hr : r = rF := hr
  rw [hr]
  exact kk
/-- a writer of an object is called: it answers an int -/
theorem cf_wcallI {rF : Int32} (S : CallFix p m c cc nL s args Ts own) (hM : Met l y ws rm (cf_wr (.ref b :: As) D wc tys H.size z) (va_Qi (fun r u => r = rF ∧ u = wF) (cf_B D tys (va_A wc H.size)) (va_A wc H.size)) 0 0 (va_A wc H.size)) (cw : CallW R s args own C index y bytes maxL ret ws rm 0 0 n)
    (hP : va_P D vwCl w0 H) (hD : va_D A w0) (hK : va_K D vwCl tys s) (hZ : cf_stat A z s s.heap) (hS : va_S A s.heap H locs) (hA : ∀ q, s.heap.size ≤ q → A q) (hPc : va_P D vwCl wc H) (isC isR : List Nat) (hC : isC.map (fun i => w0[i]?) = wc.map some) (hCn : va_nd isC = true) (hR : isR.map (fun i => w0[i]?) = wr.map some) (hRn : va_nd isR = true) (hdis : ∀ i ∈ isR, i ∉ isC)
    (hc : vwCl[ci]? = some qc) (hqC : qc.1 = C) (he : wc[q0]? = some (b, .inr (ci, fs)))
    (hn : As.length = n) (hsize : ls.size = nL) (hst : st0 = As.reverse ++ .ref b :: rest) (hW : (rest.map fun v => v.category).sum ≤ 8) (hdg : decode cc pc = .ok (.invokevirtual index, 3)) (hf : cells + 0 ≤ R.cells ∧ slots + 0 ≤ R.slots)
    (kk : ∀ (H1 : Heap) (locs1 : List Loc), va_P D vwCl (wr ++ wF) H1 → va_D A (wr ++ wF) → va_S A s.heap H1 locs1 → W p l e R s m args below meth c H1 locs1 cells slots Q (F0 m (pc + 3) ls (.int rF :: rest))) : W p l e R s m args below meth c H locs cells slots Q (F0 m pc ls st0) := by
  subst hqC
  have hF := va_free hD hS hA isC hC
  refine va_calli (va_runV (As := As) (rest := rest) S hM cw ⟨cf_wr_blind, va_recv hK hPc hc he, cf_wr_pre hPc (hD.sub isC hCn hC) hK hZ hS hF⟩ rfl hn hsize hst (lv_room hW) hdg hf) hS (fun q _ h => hF q h) hF (fun r u t H1 locs1 ht hvm hw hB hz1 hk1 hS1 => ?_)
  obtain ⟨hw1, hw2⟩ := hw
  obtain ⟨hP1, hK1, hD1⟩ := hB
  rw [ht] at hP1
  rw [hw2] at hP1 hD1
  obtain ⟨hP2, hD2⟩ := va_join (wr := wr) (w1 := wF) hP hD isC isR hC hR hRn hdis hk1 hF hP1 hD1
  rw [hw1]
  exact kk H1 locs1 hP2 hD2 hS1
/-- .. a long -/
theorem cf_wcallL {rF : Int64} (S : CallFix p m c cc nL s args Ts own) (hM : Met l y ws rm (cf_wr (.ref b :: As) D wc tys H.size z) (va_Ql (fun r u => r = rF ∧ u = wF) (cf_B D tys (va_A wc H.size)) (va_A wc H.size)) 0 0 (va_A wc H.size)) (cw : CallW R s args own C index y bytes maxL ret ws rm 0 0 n)
    (hP : va_P D vwCl w0 H) (hD : va_D A w0) (hK : va_K D vwCl tys s) (hZ : cf_stat A z s s.heap) (hS : va_S A s.heap H locs) (hA : ∀ q, s.heap.size ≤ q → A q) (hPc : va_P D vwCl wc H) (isC isR : List Nat) (hC : isC.map (fun i => w0[i]?) = wc.map some) (hCn : va_nd isC = true) (hR : isR.map (fun i => w0[i]?) = wr.map some) (hRn : va_nd isR = true) (hdis : ∀ i ∈ isR, i ∉ isC)
    (hc : vwCl[ci]? = some qc) (hqC : qc.1 = C) (he : wc[q0]? = some (b, .inr (ci, fs)))
    (hn : As.length = n) (hsize : ls.size = nL) (hst : st0 = As.reverse ++ .ref b :: rest) (hW : (rest.map fun v => v.category).sum ≤ 8) (hdg : decode cc pc = .ok (.invokevirtual index, 3)) (hf : cells + 0 ≤ R.cells ∧ slots + 0 ≤ R.slots)
    (kk : ∀ (H1 : Heap) (locs1 : List Loc), va_P D vwCl (wr ++ wF) H1 → va_D A (wr ++ wF) → va_S A s.heap H1 locs1 → W p l e R s m args below meth c H1 locs1 cells slots Q (F0 m (pc + 3) ls (.long rF :: rest))) : W p l e R s m args below meth c H locs cells slots Q (F0 m pc ls st0) := by
  subst hqC
  have hF := va_free hD hS hA isC hC
  refine va_calll (va_runV (As := As) (rest := rest) S hM cw ⟨cf_wr_blind, va_recv hK hPc hc he, cf_wr_pre hPc (hD.sub isC hCn hC) hK hZ hS hF⟩ rfl hn hsize hst (lv_room hW) hdg hf) hS (fun q _ h => hF q h) hF (fun r u t H1 locs1 ht hvm hw hB hz1 hk1 hS1 => ?_)
  obtain ⟨hw1, hw2⟩ := hw
  obtain ⟨hP1, hK1, hD1⟩ := hB
  rw [ht] at hP1
  rw [hw2] at hP1 hD1
  obtain ⟨hP2, hD2⟩ := va_join (wr := wr) (w1 := wF) hP hD isC isR hC hR hRn hdis hk1 hF hP1 hD1
  rw [hw1]
  exact kk H1 locs1 hP2 hD2 hS1
/-- .. nothing -/
theorem cf_wcallN (S : CallFix p m c cc nL s args Ts own) (hM : Met l y ws rm (cf_wr (.ref b :: As) D wc tys H.size z) (va_Qv (fun u => u = wF) (cf_B D tys (va_A wc H.size)) (va_A wc H.size)) 0 0 (va_A wc H.size)) (cw : CallW R s args own C index y bytes maxL ret ws rm 0 0 n)
    (hP : va_P D vwCl w0 H) (hD : va_D A w0) (hK : va_K D vwCl tys s) (hZ : cf_stat A z s s.heap) (hS : va_S A s.heap H locs) (hA : ∀ q, s.heap.size ≤ q → A q) (hPc : va_P D vwCl wc H) (isC isR : List Nat) (hC : isC.map (fun i => w0[i]?) = wc.map some) (hCn : va_nd isC = true) (hR : isR.map (fun i => w0[i]?) = wr.map some) (hRn : va_nd isR = true) (hdis : ∀ i ∈ isR, i ∉ isC)
    (hc : vwCl[ci]? = some qc) (hqC : qc.1 = C) (he : wc[q0]? = some (b, .inr (ci, fs)))
    (hn : As.length = n) (hsize : ls.size = nL) (hst : st0 = As.reverse ++ .ref b :: rest) (hW : (rest.map fun v => v.category).sum ≤ 8) (hdg : decode cc pc = .ok (.invokevirtual index, 3)) (hf : cells + 0 ≤ R.cells ∧ slots + 0 ≤ R.slots)
    (kk : ∀ (H1 : Heap) (locs1 : List Loc), va_P D vwCl (wr ++ wF) H1 → va_D A (wr ++ wF) → va_S A s.heap H1 locs1 → W p l e R s m args below meth c H1 locs1 cells slots Q (F0 m (pc + 3) ls rest)) : W p l e R s m args below meth c H locs cells slots Q (F0 m pc ls st0) := by
  subst hqC
  have hF := va_free hD hS hA isC hC
  refine va_callv (va_runV (As := As) (rest := rest) S hM cw ⟨cf_wr_blind, va_recv hK hPc hc he, cf_wr_pre hPc (hD.sub isC hCn hC) hK hZ hS hF⟩ rfl hn hsize hst (lv_room hW) hdg hf) hS (fun q _ h => hF q h) hF (fun u t H1 locs1 ht hvm hw hB hz1 hk1 hS1 => ?_)
  obtain ⟨hP1, hK1, hD1⟩ := hB
  rw [ht] at hP1
  rw [hw] at hP1 hD1
  obtain ⟨hP2, hD2⟩ := va_join (wr := wr) (w1 := wF) hP hD isC isR hC hR hRn hdis hk1 hF hP1 hD1
  exact kk H1 locs1 hP2 hD2 hS1
/-- a static writer is called: it answers nothing -/
theorem cf_wcallSN (S : CallFix p m c cc nL s args Ts own) (hM : Met l y ws rm (cf_wr As D wc tys H.size z) (va_Qv (fun u => u = wF) (cf_B D tys (va_A wc H.size)) (va_A wc H.size)) 0 0 (va_A wc H.size)) (cw : CallB R s args own index y bytes maxL ret ws rm 0 0 n ∧ (Cond.static y).before args s = true)
    (hP : va_P D vwCl w0 H) (hD : va_D A w0) (hK : va_K D vwCl tys s) (hZ : cf_stat A z s s.heap) (hS : va_S A s.heap H locs) (hA : ∀ q, s.heap.size ≤ q → A q) (hPc : va_P D vwCl wc H) (isC isR : List Nat) (hC : isC.map (fun i => w0[i]?) = wc.map some) (hCn : va_nd isC = true) (hR : isR.map (fun i => w0[i]?) = wr.map some) (hRn : va_nd isR = true) (hdis : ∀ i ∈ isR, i ∉ isC)
    (hn : As.length = n) (hsize : ls.size = nL) (hst : st0 = As.reverse ++ rest) (hW : (rest.map fun v => v.category).sum ≤ 8) (hdg : decode cc pc = .ok (.invokestatic index, 3)) (hf : cells + 0 ≤ R.cells ∧ slots + 0 ≤ R.slots)
    (kk : ∀ (H1 : Heap) (locs1 : List Loc), va_P D vwCl (wr ++ wF) H1 → va_D A (wr ++ wF) → va_S A s.heap H1 locs1 → W p l e R s m args below meth c H1 locs1 cells slots Q (F0 m (pc + 3) ls rest)) : W p l e R s m args below meth c H locs cells slots Q (F0 m pc ls st0) := by
  have hF := va_free hD hS hA isC hC
  refine va_callv (va_runS (As := As) (rest := rest) S hM cw ⟨cf_wr_blind, cf_wr_pre hPc (hD.sub isC hCn hC) hK hZ hS hF⟩ rfl hn hsize hst (lv_room hW) hdg hf) hS (fun q _ h => hF q h) hF (fun u t H1 locs1 ht hvm hw hB hz1 hk1 hS1 => ?_)
  obtain ⟨hP1, hK1, hD1⟩ := hB
  rw [ht] at hP1
  rw [hw] at hP1 hD1
  obtain ⟨hP2, hD2⟩ := va_join (wr := wr) (w1 := wF) hP hD isC isR hC hR hRn hdis hk1 hF hP1 hD1
  exact kk H1 locs1 hP2 hD2 hS1
/-- a constructor is called: one cell of 29 comes -/
theorem cf_icall {WN : Nat × ClassId → va_W} {ty0 : List (ClassId × FieldType)} (S : CallFix p m c cc nL s args Ts own) (hM : Met l y ws rm (cf_wr (.ref b :: As) D wc [] H.size z) (va_Qv (fun _ : Nat × ClassId => True) (fun u t => cf_B D [(u.2, .int)] (va_A wc H.size) (WN u) t) (va_A wc H.size)) 1 29 (va_A wc H.size)) (cw : CallB R s args own index y bytes maxL none ws rm 1 29 n ∧ y.name = "<init>" ∧ (Cond.instanceMethod y).before args s = true)
    (hP : va_P D vwCl w0 H) (hD : va_D A w0) (hK : va_K D vwCl ty0 s) (hZ : cf_stat A z s s.heap) (hS : va_S A s.heap H locs) (hA : ∀ q, s.heap.size ≤ q → A q) (hPc : va_P D vwCl wc H) (isC isR : List Nat) (hC : isC.map (fun i => w0[i]?) = wc.map some) (hCn : va_nd isC = true) (hR : isR.map (fun i => w0[i]?) = wr.map some) (hRn : va_nd isR = true) (hdis : ∀ i ∈ isR, i ∉ isC)
    (hn : As.length = n) (hsize : ls.size = nL) (hst : st0 = As.reverse ++ .ref b :: rest) (hW : (rest.map fun v => v.category).sum ≤ 8) (hdg : decode cc pc = .ok (.invokespecial index, 3)) (hf : cells + 1 ≤ R.cells ∧ slots + 29 ≤ R.slots)
    (kk : ∀ (h1 : Nat) (cA : ClassId) (H1 : Heap) (locs1 : List Loc), va_P D vwCl (wr ++ WN (h1, cA)) H1 → va_D A (wr ++ WN (h1, cA)) → va_K D vwCl (ty0 ++ [(cA, .int)]) s → va_S A s.heap H1 locs1 → W p l e R s m args below meth c H1 locs1 (cells + 1) (slots + 29) Q (F0 m (pc + 3) ls rest)) : W p l e R s m args below meth c H locs cells slots Q (F0 m pc ls st0) := by
  have hF := va_free hD hS hA isC hC
  refine va_callv (va_runI (As := As) (rest := rest) S hM cw ⟨cf_wr_blind, cf_wr_pre hPc (hD.sub isC hCn hC) (hK.sub (tys' := []) [] rfl) hZ hS hF⟩ rfl hn hsize hst (lv_room hW) hdg hf) hS (fun q _ h => hF q h) hF (fun u t H1 locs1 ht hvm hw hB hz1 hk1 hS1 => ?_)
  obtain ⟨h1, cA⟩ := u
  obtain ⟨hP1, hK1, hD1⟩ := hB
  rw [ht] at hP1
  obtain ⟨hP2, hD2⟩ := va_join (wr := wr) (w1 := WN (h1, cA)) hP hD isC isR hC hR hRn hdis hk1 hF hP1 hD1
  exact kk h1 cA H1 locs1 hP2 hD2 (hK.app (va_K.moved hvm.symm hK1)) hS1
/-- a reader's end -/
theorem cf_roEnd {v rF : Int32} (hx : p.tables.exec = Jvm.exec) (hb : c.code = cc) (hr : meth.sig.returnType = some .int) (hlocks : meth.locks = false) (hv : v = rF) (hdg : decode cc pc = .ok (.ireturn, 1)) : W p l e R s m args below meth c s.heap [] 0 0 (MQ below (vp_Si (fun r => r = rF)) args s 0 0 (fun _ => False)) (F0 m pc ls [.int v]) :=
  W.iret (v := v) hx hb hr (fun t ht _ => ⟨v, rfl, hv, ht⟩) (fun _ h => absurd h List.not_mem_nil) hdg hlocks
theorem cf_roEndZ {v rF : Int32} (hx : p.tables.exec = Jvm.exec) (hb : c.code = cc) (hr : meth.sig.returnType = some .boolean) (hlocks : meth.locks = false) (hn : narrow .boolean (.int v) = .int v) (hv : v = rF) (hdg : decode cc pc = .ok (.ireturn, 1)) : W p l e R s m args below meth c s.heap [] 0 0 (MQ below (vp_Si (fun r => r = rF)) args s 0 0 (fun _ => False)) (F0 m pc ls [.int v]) :=
  W.zret (v := v) hx hb hr hn (fun t ht _ => ⟨v, rfl, hv, ht⟩) (fun _ h => absurd h List.not_mem_nil) hdg hlocks
/-- a writer's end -/
theorem cf_wrEnd {v rF : Int32} {w : va_W} (hx : p.tables.exec = Jvm.exec) (hb : c.code = cc) (hr : meth.sig.returnType = some .int) (hlocks : meth.locks = false) (hP : va_P D vwCl w H) (hD : va_D A w) (hK : va_K D vwCl tys s) (hS : va_S A s.heap H locs) (hv : v = rF) (hw : w = wF) (hdg : decode cc pc = .ok (.ireturn, 1)) : W p l e R s m args below meth c H locs 0 0 (MQ below (va_Qi (fun r u => r = rF ∧ u = wF) (cf_B D tys A) A) args s 0 0 A) (F0 m pc ls [.int v]) :=
  W.iret (v := v) hx hb hr (fun t ht hW => ⟨⟨v, w, rfl, ⟨hv, hw⟩, by rw [ht]; exact hP, va_K.moved hW.alike hK, hD⟩, hS.F ht⟩) hS.2.2 hdg hlocks
theorem cf_wrEndZ {v rF : Int32} {w : va_W} (hx : p.tables.exec = Jvm.exec) (hb : c.code = cc) (hr : meth.sig.returnType = some .boolean) (hlocks : meth.locks = false) (hn : narrow .boolean (.int v) = .int v) (hP : va_P D vwCl w H) (hD : va_D A w) (hK : va_K D vwCl tys s) (hS : va_S A s.heap H locs) (hv : v = rF) (hw : w = wF) (hdg : decode cc pc = .ok (.ireturn, 1)) : W p l e R s m args below meth c H locs 0 0 (MQ below (va_Qi (fun r u => r = rF ∧ u = wF) (cf_B D tys A) A) args s 0 0 A) (F0 m pc ls [.int v]) :=
  W.zret (v := v) hx hb hr hn (fun t ht hW => ⟨⟨v, w, rfl, ⟨hv, hw⟩, by rw [ht]; exact hP, va_K.moved hW.alike hK, hD⟩, hS.F ht⟩) hS.2.2 hdg hlocks
theorem cf_wrEndL {v rF : Int64} {w : va_W} (hx : p.tables.exec = Jvm.exec) (hb : c.code = cc) (hr : meth.sig.returnType = some .long) (hlocks : meth.locks = false) (hP : va_P D vwCl w H) (hD : va_D A w) (hK : va_K D vwCl tys s) (hS : va_S A s.heap H locs) (hv : v = rF) (hw : w = wF) (hdg : decode cc pc = .ok (.lreturn, 1)) : W p l e R s m args below meth c H locs 0 0 (MQ below (va_Ql (fun r u => r = rF ∧ u = wF) (cf_B D tys A) A) args s 0 0 A) (F0 m pc ls [.long v]) :=
  W.lret (v := v) hx hb hr (fun t ht hW => ⟨⟨v, w, rfl, ⟨hv, hw⟩, by rw [ht]; exact hP, va_K.moved hW.alike hK, hD⟩, hS.F ht⟩) hS.2.2 hdg hlocks
theorem cf_wrEndN {w : va_W} (hx : p.tables.exec = Jvm.exec) (hb : c.code = cc) (hr : meth.sig.returnType = none) (hlocks : meth.locks = false) (hP : va_P D vwCl w H) (hD : va_D A w) (hK : va_K D vwCl tys s) (hS : va_S A s.heap H locs) (hw : w = wF) (hdg : decode cc pc = .ok (.return_, 1)) : W p l e R s m args below meth c H locs 0 0 (MQ below (va_Qv (fun u => u = wF) (cf_B D tys A) A) args s 0 0 A) (F0 m pc ls []) :=
  W.vret hx hb hr (fun t ht hW => ⟨⟨w, rfl, hw, by rw [ht]; exact hP, va_K.moved hW.alike hK, hD⟩, hS.F ht⟩) hS.2.2 hdg hlocks
/-- a place of the row of 29, by its number -/
theorem cf_ld {a : Nat} {cl : List vw_C} {cA : ClassId} {f : Nat → Int32} {i : Int32} (j : Nat) (hx : p.tables.exec = Jvm.exec) (hb : c.code = cc) (hK : va_K D cl tys s) (hP : va_P D cl w0 H) (q0 t0 : Nat) (ha : w0[q0]? = some (a, .inl (cA, 29, .inl f))) (ht : tys[t0]? = some (cA, .int)) (hi : i = nI j) (hj : j < 29) (hdg : decode cc pc = .ok (.iaload, 1))
    (kk : W p l e R s m args below meth c H locs cells slots Q (F0 m (pc + 1) ls (.int (f j) :: rest))) : W p l e R s m args below meth c H locs cells slots Q (F0 m pc ls (.int i :: .ref a :: rest)) := by
  subst hi
  refine va_iald hx hb hK hP q0 t0 ha ht (vp_in_nI hj (by omega)) hdg ?_
  rw [nI_clamp (by omega)]
  exact kk
/-- a join: what goes on behind two ways -/
theorem cf_join {g g1 : JFrame} (h : W p l e R s m args below meth c H locs cells slots Q g1) (k : W p l e R s m args below meth c H locs cells slots Q g1 → W p l e R s m args below meth c H locs cells slots Q g) : W p l e R s m args below meth c H locs cells slots Q g := k h
end CFK
/-- a loop of a reader, its counter from i up to N -/
theorem cf_ind {G : JFrame → Prop} {m : MethodId} {pc : Nat} (N : Nat) (I : Nat → Array Slot → Prop) (step : ∀ (i : Nat) (ls : Array Slot), i < N → I i ls → (∀ ls' : Array Slot, I (i + 1) ls' → G (F0 m pc ls' [])) → G (F0 m pc ls [])) (fin : ∀ ls : Array Slot, I N ls → G (F0 m pc ls [])) : ∀ (n i : Nat) (ls : Array Slot), N - i = n → i ≤ N → I i ls → G (F0 m pc ls []) := by
  intro n
  induction n with
  | zero =>
    intro i ls h1 h2 h3
    have e : i = N := by omega
    subst e
    exact fin ls h3
  | succ n ih =>
    intro i ls h1 h2 h3
    exact step i ls (by omega) h3 (fun ls' h => ih (i + 1) ls' (by omega) (by omega) h)
/-- .. of a writer -/
theorem cf_indH {G : Heap → List Loc → JFrame → Prop} {m : MethodId} {pc : Nat} (N : Nat) (I : Nat → Heap → List Loc → Array Slot → Prop) (step : ∀ (i : Nat) (H : Heap) (locs : List Loc) (ls : Array Slot), i < N → I i H locs ls → (∀ (H' : Heap) (locs' : List Loc) (ls' : Array Slot), I (i + 1) H' locs' ls' → G H' locs' (F0 m pc ls' [])) → G H locs (F0 m pc ls [])) (fin : ∀ (H : Heap) (locs : List Loc) (ls : Array Slot), I N H locs ls → G H locs (F0 m pc ls [])) : ∀ (n i : Nat) (H : Heap) (locs : List Loc) (ls : Array Slot), N - i = n → i ≤ N → I i H locs ls → G H locs (F0 m pc ls []) := by
  intro n
  induction n with
  | zero =>
    intro i H locs ls h1 h2 h3
    have e : i = N := by omega
    subst e
    exact fin H locs ls h3
  | succ n ih =>
    intro i H locs ls h1 h2 h3
    exact step i H locs ls (by omega) h3 (fun H' locs' ls' h => ih (i + 1) H' locs' ls' (by omega) (by omega) h)
theorem cf_ne {x a : Int32} {n : Int} (e : a.toInt = n) (h : ¬ x = a) : ¬ n = x.toInt := fun q => h (Int32.toInt_inj.mp (by rw [e, ← q]))
theorem cf_in {x : Int32} (h1 : ¬ x < 0) (h2 : ¬ (29 : Int32) ≤ x) : vp_in x 29 := by
  rw [vp_in_iff]
  rw [Int32.lt_iff_toInt_lt] at h1
  rw [Int32.le_iff_toInt_le] at h2
  have e0 : (0 : Int32).toInt = 0 := by decide
  have e29 : (29 : Int32).toInt = 29 := by decide
  omega
end
section
/-! WHAT EACH METHOD ANSWERS, as functions of the state (k: the row of 29; md tm al ln od: mode, time, alarm, line, old), as its own lines have it. -/
def cf_ush (x y : Int32) : Int32 := (x.toUInt32 >>> (y.toUInt32 &&& Int32.toUInt32 31)).toInt32
def cf_lush (x : Int64) (y : Int32) : Int64 := (x.toUInt64 >>> (y.toInt64.toUInt64 &&& Int64.toUInt64 63)).toInt64
def cf_lsh (x : Int64) (y : Int32) : Int64 := x >>> (y.toInt64 &&& 63)
def cf_fill (f : Nat → Int32) (v : Int32) (n : Nat) : Nat → Int32 := fun j => if j < n then v else f j
theorem cf_fill_0 (f : Nat → Int32) (v : Int32) : cf_fill f v 0 = f := by funext j; simp [cf_fill]
theorem cf_fill_s (f : Nat → Int32) (v : Int32) (i : Nat) : upd (cf_fill f v i) i v = cf_fill f v (i + 1) := by
  funext j
  unfold upd cf_fill
  by_cases h : j = i
  · rw [if_pos h, if_pos (by omega)]
  · rw [if_neg h]
    by_cases h2 : j < i
    · rw [if_pos h2, if_pos (by omega)]
    · rw [if_neg h2, if_neg (by omega)]
theorem cf_n10 : ¬ (1 : Int32) = 0 := by decide
theorem cf_p00 : (0 : Int32) = 0 := rfl
-- the ControlFile
def cf_sl (n : Int32) : Nat → Nat → Int32
  | _, 0 => -1
  | i, r + 1 => if cf_num i = n then nI i else cf_sl n (i + 1) r
def cf_slot (n : Int32) : Int32 := cf_sl n 0 29
def cf_ofS (x : Int32) : Int32 := if x < 0 then 0 else if 9 ≤ x then 0 else 1
def cf_ofT (x : Int32) : Int32 := if x = 27 then 1 else if x = 28 then 1 else 0
def cf_trap (k : Nat → Int32) (x : Int32) : Int32 := if x = 8 then (if k 18 &&& 1048576 = 0 then 0 else 1) else 0
def cf_perm2 (k : Nat → Int32) (md x : Int32) : Int32 := if md = 1 then 0 else if cf_ofT x = 0 then (if md = 0 then 2 else if md = 3 then (if cf_ofS x = 0 then 22 else if cf_trap k x = 0 then 0 else 22) else 22) else 0
def cf_perm (k : Nat → Int32) (md x w : Int32) : Int32 := if x = -1 then 2 else if w = 0 then cf_perm2 k md x else if cf_ofT x = 0 then cf_perm2 k md x else 2
def cf_wrt (b kd v : Int32) : Int32 := if kd = 1 then v else if kd = 2 then b ||| v else b &&& (v ^^^ -1)
def cf_pend (k : Nat → Int32) (tm al : Int64) (ln : Int32) : Int32 := if lg_cmp tm al < 0 then (if ln = 0 then k 7 else k 7 ||| 512) else (if ln = 0 then k 7 ||| 32 else k 7 ||| 32 ||| 512)
def cf_told (k : Nat → Int32) (tm al : Int64) (ln x : Int32) : Int32 := if x = 7 then cf_pend k tm al ln else if x = 10 then cf_ush (k 21 &&& k 20) 1 else if x = 16 then cf_ush (k 24 &&& k 20) 1 else if x = 23 then k 24 else if x = 27 then tm.toInt32 else if x = 28 then (cf_lush tm 32).toInt32 else if x < 0 then 0 else if 29 ≤ x then 0 else k x.toNatClampNeg
def cf_putB (k : Nat → Int32) (x v b : Int32) : Nat → Int32 := if x < 0 then k else if 29 ≤ x then k else upd k x.toNatClampNeg ((k x.toNatClampNeg &&& (b ^^^ -1)) ||| (v &&& b))
def cf_put (k : Nat → Int32) (x v : Int32) : Nat → Int32 := if x = 10 then cf_putB k 21 (v <<< ((1 : Int32) &&& 31)) (k 20) else if x = 16 then cf_putB k 24 (v <<< ((1 : Int32) &&& 31)) (4 &&& k 20) else if x = 23 then cf_putB k 24 v 4 else if x < 0 then k else if 29 ≤ x then k else upd k x.toNatClampNeg (v &&& cf_keep x.toNatClampNeg)
def cf_at (md x : Int32) : Int32 := if md = 3 then (if cf_ofS x = 0 then x else x + 9) else x
def cf_bit (kd : Int32) : Int32 := if kd = 0 then 0 else 1
def cf_accR (k : Nat → Int32) (md n kd : Int32) : Int32 := if kd < 0 then -1 else if kd ≤ 3 then (if cf_perm k md (cf_slot n) (cf_bit kd) = 0 then 0 else cf_perm k md (cf_slot n) (cf_bit kd)) else -1
def cf_accO (k : Nat → Int32) (md : Int32) (tm al : Int64) (ln od n kd : Int32) : Int32 := if kd < 0 then od else if kd ≤ 3 then (if cf_perm k md (cf_slot n) (cf_bit kd) = 0 then cf_told k tm al ln (cf_at md (cf_slot n)) else od) else od
def cf_accK (k : Nat → Int32) (md : Int32) (tm al : Int64) (ln n kd v : Int32) : Nat → Int32 := if kd < 0 then k else if kd ≤ 3 then (if cf_perm k md (cf_slot n) (cf_bit kd) = 0 then (if kd = 0 then k else cf_put k (cf_at md (cf_slot n)) (cf_wrt (cf_told k tm al ln (cf_at md (cf_slot n))) kd v)) else k) else k
def cf_cnt (f : Nat → Int32) : Nat → Int32
  | 0 => 0
  | i + 1 => if f i = 0 then cf_cnt f i else cf_cnt f i + 1
def cf_tf (k : Nat → Int32) (tm al : Int64) (ln : Int32) (j : Nat) : Int32 := cf_told k tm al ln (nI j)
def cf_used (k : Nat → Int32) (tm al : Int64) (ln : Int32) : Int32 := cf_cnt (cf_tf k tm al ln) 29
def cf_fst (f : Nat → Int32) (x : Int32) : Nat → Nat → Int32
  | _, 0 => -1
  | i, r + 1 => if cf_ush x (f i) &&& 1 = 0 then cf_fst f x (i + 1) r else f i
def cf_dS1 (k : Nat → Int32) (tm al : Int64) (ln : Int32) : Int32 := cf_fst cf_so ((cf_pend k tm al ln &&& k 1) ||| (k 24 &&& k 21 &&& (k 20 ^^^ -1))) 0 6
def cf_dS (k : Nat → Int32) (md : Int32) (tm al : Int64) (ln : Int32) : Int32 := if md = 1 then (if k 0 &&& 2 = 0 then -1 else cf_dS1 k tm al ln) else cf_dS1 k tm al ln
def cf_dV1 (k : Nat → Int32) : Int32 := if cf_fst cf_vo (k 24 &&& k 21 &&& k 20) 0 3 = -1 then -1 else cf_fst cf_vo (k 24 &&& k 21 &&& k 20) 0 3 + 99
def cf_dV (k : Nat → Int32) (md : Int32) : Int32 := if md = 2 then cf_dV1 k else if md = 3 then (if k 9 &&& 2 = 0 then -1 else cf_dV1 k) else -1
def cf_due (k : Nat → Int32) (md : Int32) (tm al : Int64) (ln : Int32) : Int32 := if cf_dS k md tm al ln = -1 then cf_dV k md else cf_dS k md tm al ln
-- both: mode, time, alarm
def cf_mdR (md x : Int32) : Int32 := if x < 0 then -1 else if x ≤ 3 then md else -1
def cf_mdM (md x : Int32) : Int32 := if x < 0 then md else if x ≤ 3 then x else md
def cf_tmR (tm t : Int64) : Int64 := if 0 ≤ lg_cmp t 0 then tm else -1
def cf_tmM (tm t : Int64) : Int64 := if 0 ≤ lg_cmp t 0 then t else tm
def cf_alM (t : Int64) : Int64 := if 0 ≤ lg_cmp t 0 then t else 9223372036854775807
-- the reference
def mf_kind (x : Int32) : Int32 := if x = 0 then 0 else if x = 4 then 1 else if x = 5 then 2 else if x = 64 then x - 64 + 3 else if x = 65 then x - 64 + 3 else if x = 66 then x - 64 + 3 else if x = 67 then x - 64 + 3 else if x = 68 then x - 64 + 3 else if x = 128 then 8 else -1
def mf_hyp (x : Int32) : Int32 := if x = 1536 then 18 else if x = 1538 then 19 else if x = 1539 then 20 else if x = 1540 then 21 else if x = 1603 then 22 else if x = 1604 then 23 else if x = 1605 then 24 else if x = 1610 then 25 else if x = 1664 then 26 else if x = 3073 then 27 else if x = 3201 then 28 else -1
def mf_place (n : Int32) : Int32 := if n >>> ((8 : Int32) &&& 31) = 1 then (if mf_kind (n &&& 255) = -1 then -1 else mf_kind (n &&& 255)) else if n >>> ((8 : Int32) &&& 31) = 2 then (if mf_kind (n &&& 255) = -1 then -1 else 9 + mf_kind (n &&& 255)) else mf_hyp n
def mf_has (k : Nat → Int32) (j : Nat) (b : Int32) : Int32 := if (k j >>> (b &&& 31)) &&& 1 = 1 then 1 else 0
def mf_pend (k : Nat → Int32) (tm al : Int64) (ln : Int32) : Int32 := k 7 ||| (if lg_cmp tm al < 0 then 0 else 32) ||| (if ln = 0 then 0 else 512)
def mf_tell (k : Nat → Int32) (tm al : Int64) (ln x : Int32) : Int32 := if x = 7 then mf_pend k tm al ln else if x = 10 then (k 21 &&& k 20) >>> ((1 : Int32) &&& 31) else if x = 16 then (k 24 &&& k 20) >>> ((1 : Int32) &&& 31) else if x = 23 then k 24 else if x = 27 then tm.toInt32 else if x = 28 then (cf_lsh tm 32).toInt32 else k x.toNatClampNeg
def mf_put (k : Nat → Int32) (x b v : Int32) : Nat → Int32 := upd k x.toNatClampNeg ((k x.toNatClampNeg &&& (b ^^^ -1)) ||| (v &&& b))
def mf_mask (x : Int32) : Int32 := ([786722, 546, -3, -1, -4, -1, -1, 2, -2143289345, 786722, -1, -3, -1, -4, -1, -1, -1, -2143289345, 7340992, 45567, 1092, 1092, -1, -1, 1092, -1, -2143289348] : List Int32).getD x.toNatClampNeg (-1)
def mf_write (k : Nat → Int32) (x v : Int32) : Nat → Int32 := if x = 10 then mf_put k 21 (k 20 &&& 1092) (v <<< ((1 : Int32) &&& 31)) else if x = 16 then mf_put k 24 (k 20 &&& 4) (v <<< ((1 : Int32) &&& 31)) else if x = 23 then mf_put k 24 4 v else mf_put k x (-1) (v &&& mf_mask x)
def mf_ref2 (k : Nat → Int32) (md x : Int32) : Int32 := if md = 0 then 2 else if md = 3 then (if 8 < x then 22 else if x = 8 then (if mf_has k 18 20 = 0 then 0 else 22) else 0) else 22
def mf_ref (k : Nat → Int32) (md x w : Int32) : Int32 := if x = -1 then 2 else if cf_ofT x = 0 then (if md = 1 then 0 else mf_ref2 k md x) else if w = 0 then 0 else 2
def mf_at (md x : Int32) : Int32 := if md = 3 then (if 8 < x then x else x + 9) else x
def mf_bit (kd : Int32) : Int32 := if kd ≤ 0 then 0 else 1
def mf_accR (k : Nat → Int32) (md n kd : Int32) : Int32 := if kd < 0 then -1 else if kd ≤ 3 then (if mf_ref k md (mf_place n) (mf_bit kd) ≤ 0 then 0 else mf_ref k md (mf_place n) (mf_bit kd)) else -1
def mf_accO (k : Nat → Int32) (md : Int32) (tm al : Int64) (ln od n kd : Int32) : Int32 := if kd < 0 then od else if kd ≤ 3 then (if mf_ref k md (mf_place n) (mf_bit kd) ≤ 0 then mf_tell k tm al ln (mf_at md (mf_place n)) else od) else od
def mf_accK (k : Nat → Int32) (md : Int32) (tm al : Int64) (ln n kd v : Int32) : Nat → Int32 := if kd < 0 then k else if kd ≤ 3 then (if mf_ref k md (mf_place n) (mf_bit kd) ≤ 0 then (if kd ≤ 0 then k else mf_write k (mf_at md (mf_place n)) (cf_wrt (mf_tell k tm al ln (mf_at md (mf_place n))) kd v)) else k) else k
def mf_ctl (k : Nat → Int32) (tm al : Int64) (ln n : Int32) : Int32 := if mf_place n = -1 then 0 else mf_tell k tm al ln (mf_place n)
def mf_cnt (f : Nat → Int32) : Nat → Int32
  | 0 => 0
  | i + 1 => if f i = 0 then mf_cnt f i + 0 else mf_cnt f i + 1
def mf_tf (k : Nat → Int32) (tm al : Int64) (ln : Int32) (j : Nat) : Int32 := mf_tell k tm al ln (nI j)
def mf_used (k : Nat → Int32) (tm al : Int64) (ln : Int32) : Int32 := mf_cnt (mf_tf k tm al ln) 29
def mf_fst (x a b c : Int32) : Int32 := if (x >>> (a &&& 31)) &&& 1 = 1 then a else if (x >>> (b &&& 31)) &&& 1 = 1 then b else if (x >>> (c &&& 31)) &&& 1 = 1 then c else -1
def mf_own (k : Nat → Int32) (tm al : Int64) (ln : Int32) : Int32 := mf_fst (mf_tell k tm al ln 7 &&& k 1) 9 1 5
def mf_hy (k : Nat → Int32) : Int32 := mf_fst (k 24 &&& k 21 &&& (k 20 ^^^ -1)) 10 2 6
def mf_vi (k : Nat → Int32) : Int32 := mf_fst (k 24 &&& k 21 &&& k 20) 10 2 6
def mf_dV1 (k : Nat → Int32) : Int32 := if mf_vi k = -1 then -1 else 100 + mf_vi k - 1
def mf_dV (k : Nat → Int32) (md : Int32) : Int32 := if md = 2 then mf_dV1 k else if md = 3 then (if mf_has k 9 1 = 0 then -1 else mf_dV1 k) else -1
def mf_dS (k : Nat → Int32) (md : Int32) (tm al : Int64) (ln : Int32) : Int32 := if mf_own k tm al ln = -1 then (if mf_hy k = -1 then mf_dV k md else mf_hy k) else mf_own k tm al ln
def mf_due (k : Nat → Int32) (md : Int32) (tm al : Int64) (ln : Int32) : Int32 := if md = 1 then (if mf_has k 0 1 = 0 then mf_dV k md else mf_dS k md tm al ln) else mf_dS k md tm al ln
end
section
/-! PURE ROWS. The first thirty or so are kit/laws/BITS.to-paste (family 'Int32 by its bits'). -/
def bt (x : Int32) (i : Nat) : Bool := x.toBitVec.getLsbD i
theorem b_ext {x y : Int32} (h : ∀ i, i < 32 → bt x i = bt y i) : x = y := Int32.toBitVec_inj.mp (BitVec.eq_of_getLsbD_eq (fun i hi => h i hi))
theorem b_or (x y : Int32) (i : Nat) : bt (x ||| y) i = (bt x i || bt y i) := by unfold bt; rw [Int32.toBitVec_or, BitVec.getLsbD_or]
theorem b_and (x y : Int32) (i : Nat) : bt (x &&& y) i = (bt x i && bt y i) := by unfold bt; rw [Int32.toBitVec_and, BitVec.getLsbD_and]
theorem b_xor (x y : Int32) (i : Nat) : bt (x ^^^ y) i = (bt x i ^^ bt y i) := by unfold bt; rw [Int32.toBitVec_xor, BitVec.getLsbD_xor]
theorem b_big {x : Int32} {i : Nat} (h : 32 ≤ i) : bt x i = false := BitVec.getLsbD_of_ge _ _ h
theorem b_m1 : ∀ i, i < 32 → bt (-1) i = true := by decide +kernel
theorem b_0 (i : Nat) : bt 0 i = false := BitVec.getLsbD_zero
theorem s_l : ∀ n, n < 32 → ((nI n &&& 31).toBitVec.smod 32).toNat = n := by decide +kernel
theorem s_u : ∀ n, n < 32 → (((nI n).toUInt32 &&& Int32.toUInt32 31).toBitVec % 32).toNat = n := by decide +kernel
theorem b_ushr (n : Nat) (hn : n < 32) (x : Int32) (i : Nat) : bt ((x.toUInt32 >>> ((nI n).toUInt32 &&& Int32.toUInt32 31)).toInt32) i = bt x (n + i) := by
  show (x.toUInt32 >>> ((nI n).toUInt32 &&& Int32.toUInt32 31)).toBitVec.getLsbD i = x.toUInt32.toBitVec.getLsbD (n + i)
  rw [UInt32.toBitVec_shiftRight]
  show (x.toUInt32.toBitVec >>> (((nI n).toUInt32 &&& Int32.toUInt32 31).toBitVec % 32).toNat).getLsbD i = _
  rw [s_u n hn, BitVec.getLsbD_ushiftRight]
theorem b_sshr (n : Nat) (hn : n < 32) (x : Int32) {i : Nat} (hi : i < 32) : bt (x >>> (nI n &&& 31)) i = if n + i < 32 then bt x (n + i) else bt x 31 := by
  unfold bt
  rw [Int32.toBitVec_shiftRight]
  show (x.toBitVec.sshiftRight ((nI n &&& 31).toBitVec.smod 32).toNat).getLsbD i = _
  rw [s_l n hn, BitVec.getLsbD_sshiftRight, BitVec.msb_eq_getLsbD_last]
  simp [hi]
-- one bit, told three ways
theorem cf_b1 : ∀ i, i < 32 → bt 1 i = decide (i = 0) := by decide +kernel
theorem cf_bs (y : Int32) (b : Nat) (hb : b < 32) : (y >>> (nI b &&& 31)) &&& 1 = if bt y b = true then 1 else 0 := by
  apply b_ext
  intro i hi
  rw [b_and, b_sshr b hb y hi, cf_b1 i hi]
  by_cases h0 : i = 0
  · subst h0
    rw [if_pos (by omega), Nat.add_zero]
    cases hq : bt y b
    · simp [b_0]
    · simp [cf_b1]
  · rw [decide_eq_false h0, Bool.and_false]
    cases hq : bt y b
    · simp [b_0]
    · simp [cf_b1 i hi, h0]
theorem cf_bu (y : Int32) (b : Nat) (hb : b < 32) : cf_ush y (nI b) &&& 1 = if bt y b = true then 1 else 0 := by
  apply b_ext
  intro i hi
  unfold cf_ush
  rw [b_and, b_ushr b hb y i, cf_b1 i hi]
  by_cases h0 : i = 0
  · subst h0
    rw [Nat.add_zero]
    cases hq : bt y b
    · simp [b_0]
    · simp [cf_b1]
  · rw [decide_eq_false h0, Bool.and_false]
    cases hq : bt y b
    · simp [b_0]
    · simp [cf_b1 i hi, h0]
theorem cf_msk (y m : Int32) (b : Nat) (hb : b < 32) (hm : ∀ i, i < 32 → bt m i = decide (i = b)) : y &&& m = 0 ↔ bt y b = false := by
  constructor
  · intro h
    have hmb : bt m b = true := by rw [hm b hb]; exact decide_eq_true rfl
    have q : bt (y &&& m) b = bt 0 b := by rw [h]
    rw [b_and, hmb, b_0, Bool.and_true] at q
    exact q
  · intro h
    apply b_ext
    intro i hi
    rw [b_and, hm i hi, b_0]
    by_cases e : i = b
    · subst e
      rw [h, Bool.false_and]
    · rw [decide_eq_false e, Bool.and_false]
theorem cf_m2 : ∀ i, i < 32 → bt 2 i = decide (i = 1) := by decide +kernel
theorem cf_mV : ∀ i, i < 32 → bt 1048576 i = decide (i = 20) := by decide +kernel
theorem cf_has_eq (k : Nat → Int32) (j b : Nat) (hb : b < 32) : mf_has k j (nI b) = 0 ↔ bt (k j) b = false := by
  unfold mf_has
  rw [cf_bs (k j) b hb]
  cases bt (k j) b <;> decide
-- masks
theorem cf_sb1 {a m : Int32} (b : Int32) (h : a &&& m = a) : (a &&& b) &&& m = a &&& b := by
  apply b_ext
  intro i hi
  have q : bt (a &&& m) i = bt a i := by rw [h]
  rw [b_and] at q
  rw [b_and, b_and]
  revert q
  generalize bt a i = x
  generalize bt m i = y
  generalize bt b i = w
  revert x y w
  decide
theorem cf_sb2 {a m : Int32} (b : Int32) (h : a &&& m = a) : (b &&& a) &&& m = b &&& a := by
  apply b_ext
  intro i hi
  have q : bt (a &&& m) i = bt a i := by rw [h]
  rw [b_and] at q
  rw [b_and, b_and]
  revert q
  generalize bt a i = x
  generalize bt m i = y
  generalize bt b i = w
  revert x y w
  decide
theorem cf_sb3 {a b m : Int32} (h : a &&& m = a) (h2 : b &&& m = b) : (a ||| b) &&& m = a ||| b := by
  apply b_ext
  intro i hi
  have q : bt (a &&& m) i = bt a i := by rw [h]
  have q2 : bt (b &&& m) i = bt b i := by rw [h2]
  rw [b_and] at q q2
  rw [b_and, b_or]
  revert q q2
  generalize bt a i = x
  generalize bt m i = y
  generalize bt b i = w
  revert x y w
  decide
theorem cf_sb4 (v m : Int32) : (v &&& m) &&& m = v &&& m := by
  apply b_ext
  intro i hi
  simp only [b_and]
  cases bt v i <;> cases bt m i <;> rfl
theorem cf_sbt {a m : Int32} {i : Nat} (h : a &&& m = a) (hm : bt m i = false) : bt a i = false := by
  rw [← h, b_and, hm, Bool.and_false]
theorem cf_am1 (v : Int32) : v &&& (-1) = v := by
  apply b_ext
  intro i hi
  rw [b_and, b_m1 i hi, Bool.and_true]
theorem cf_all (a v : Int32) : (a &&& ((-1) ^^^ (-1))) ||| (v &&& (-1)) = v := by
  apply b_ext
  intro i hi
  rw [b_or, b_and, b_and, b_xor, b_m1 i hi]
  cases bt a i <;> cases bt v i <;> rfl
theorem cf_comm (a b : Int32) : a &&& b = b &&& a := by
  apply b_ext
  intro i hi
  rw [b_and, b_and, Bool.and_comm]
theorem cf_or0 (a : Int32) : a ||| 0 = a := by
  apply b_ext
  intro i hi
  rw [b_or, b_0, Bool.or_false]
-- shifts: without and with the sign
theorem cf_sh1 {y : Int32} (h : bt y 31 = false) : cf_ush y 1 = y >>> ((1 : Int32) &&& 31) := by
  apply b_ext
  intro i hi
  show bt ((y.toUInt32 >>> ((nI 1).toUInt32 &&& Int32.toUInt32 31)).toInt32) i = bt (y >>> (nI 1 &&& 31)) i
  rw [b_ushr 1 (by omega), b_sshr 1 (by omega) y hi]
  by_cases e : 1 + i < 32
  · rw [if_pos e]
  · rw [if_neg e, b_big (by omega), h]
theorem cf_hi (t : Int64) : (cf_lush t 32).toInt32 = (cf_lsh t 32).toInt32 := by
  have e1 : (cf_lush t 32).toBitVec = t.toBitVec >>> 32 := by
    show (t.toUInt64 >>> ((32 : Int32).toInt64.toUInt64 &&& Int64.toUInt64 63)).toBitVec = _
    rw [UInt64.toBitVec_shiftRight]
    show t.toBitVec >>> (((32 : Int32).toInt64.toUInt64 &&& Int64.toUInt64 63).toBitVec % 64).toNat = _
    rw [show (((32 : Int32).toInt64.toUInt64 &&& Int64.toUInt64 63).toBitVec % 64).toNat = 32 by decide +kernel]
  have e2 : (cf_lsh t 32).toBitVec = t.toBitVec.sshiftRight 32 := by
    unfold cf_lsh
    rw [Int64.toBitVec_shiftRight]
    show t.toBitVec.sshiftRight (((32 : Int32).toInt64 &&& 63).toBitVec.smod 64).toNat = _
    rw [show (((32 : Int32).toInt64 &&& 63).toBitVec.smod 64).toNat = 32 by decide +kernel]
  apply Int32.toBitVec_inj.1
  rw [Int64.toBitVec_toInt32, Int64.toBitVec_toInt32, e1, e2]
  apply BitVec.eq_of_getLsbD_eq
  intro i hi
  rw [BitVec.getLsbD_signExtend, BitVec.getLsbD_signExtend, if_pos (by omega), if_pos (by omega), BitVec.getLsbD_ushiftRight, BitVec.getLsbD_sshiftRight]
  have h1 : 32 + i < 64 := by omega
  have h2 : ¬ 64 ≤ i := by omega
  simp [h1, h2]
-- the place of a number
theorem cf_sl_none {n : Int32} (h : ∀ j, j < 29 → ¬ cf_num j = n) : ∀ r i, i + r ≤ 29 → cf_sl n i r = -1 := by
  intro r
  induction r with
  | zero => intro i _; rfl
  | succ r ih => intro i hi; rw [cf_sl, if_neg (h i (by omega))]; exact ih (i + 1) (by omega)
theorem cf_sl_rng (n : Int32) : ∀ r i, i + r ≤ 29 → cf_sl n i r = -1 ∨ vp_in (cf_sl n i r) 29 := by
  intro r
  induction r with
  | zero => intro i _; exact Or.inl rfl
  | succ r ih =>
    intro i hi
    rw [cf_sl]
    by_cases h : cf_num i = n
    · rw [if_pos h]; exact Or.inr (vp_in_nI (by omega) (by omega))
    · rw [if_neg h]; exact ih (i + 1) (by omega)
theorem cf_slot_rng (n : Int32) : cf_slot n = -1 ∨ vp_in (cf_slot n) 29 := cf_sl_rng n 29 0 (by omega)
theorem cf_num_rng : ∀ j, j < 29 → 0 ≤ (cf_num j).toInt ∧ (cf_num j).toInt < 4096 := by decide +kernel
theorem cf_place_in : ∀ a, a < 64 → ∀ b, b < 64 → mf_place (nI (64 * a + b)) = cf_slot (nI (64 * a + b)) := by decide +kernel
theorem cf_place_out {n : Int32} (h : n < 0 ∨ nI 4096 ≤ n) : mf_place n = cf_slot n := by
  have hn : n.toInt < 0 ∨ 4096 ≤ n.toInt := by
    rcases h with h | h
    · left; rw [Int32.lt_iff_toInt_lt] at h; exact h
    · right; rw [Int32.le_iff_toInt_le, nI_toInt (by omega)] at h; exact h
  have e : (n >>> ((8 : Int32) &&& 31)).toInt = n.toInt / 256 := by
    rw [pk_shr n ((8 : Int32) &&& 31) 8 (by decide +kernel), Int.shiftRight_eq_div_pow]; rfl
  have hp : ∀ q : Int32, 0 ≤ q.toInt → q.toInt < 16 → ¬ n >>> ((8 : Int32) &&& 31) = q := by
    intro q h0 h1 hq
    rw [hq] at e
    omega
  have hc : ∀ q : Int32, 0 ≤ q.toInt → q.toInt < 4096 → ¬ n = q := by
    intro q h0 h1 hq
    subst hq
    omega
  have h1 : mf_place n = -1 := by
    unfold mf_place mf_hyp
    rw [if_neg (hp 1 (by decide) (by decide)), if_neg (hp 2 (by decide) (by decide)), if_neg (hc 1536 (by decide) (by decide)), if_neg (hc 1538 (by decide) (by decide)), if_neg (hc 1539 (by decide) (by decide)), if_neg (hc 1540 (by decide) (by decide)), if_neg (hc 1603 (by decide) (by decide)), if_neg (hc 1604 (by decide) (by decide)), if_neg (hc 1605 (by decide) (by decide)), if_neg (hc 1610 (by decide) (by decide)), if_neg (hc 1664 (by decide) (by decide)), if_neg (hc 3073 (by decide) (by decide)), if_neg (hc 3201 (by decide) (by decide))]
  have h2 : cf_slot n = -1 := cf_sl_none (fun j hj hq => hc (cf_num j) (cf_num_rng j hj).1 (cf_num_rng j hj).2 hq.symm) 29 0 (by omega)
  rw [h1, h2]
theorem cf_place (n : Int32) : mf_place n = cf_slot n := by
  rcases pk_ix n (n := 4096) (by omega) with h | h | ⟨j, hj, rfl⟩
  · exact cf_place_out (Or.inl h)
  · exact cf_place_out (Or.inr h)
  · have q := cf_place_in (j / 64) (by omega) (j % 64) (by omega)
    rw [show 64 * (j / 64) + j % 64 = j by omega] at q
    exact q
theorem mf_in0 {n : Int32} (h : ¬ mf_place n = -1) : vp_in (mf_place n) 29 := by
  rw [cf_place] at h ⊢
  rcases cf_slot_rng n with q | q
  · exact absurd q h
  · exact q
theorem mf_in1 {k : Nat → Int32} {md n w : Int32} (h : mf_ref k md (mf_place n) w ≤ 0) : vp_in (mf_place n) 29 := by
  apply mf_in0
  intro q
  rw [mf_ref, if_pos q] at h
  exact absurd h (by decide)
theorem mf_in2 {x : Int32} (h : vp_in x 29) (h8 : ¬ 8 < x) : vp_in (x + 9) 29 := by
  obtain ⟨j, hj, rfl⟩ := vp_in_of h (by decide)
  have q : ¬ nI 8 < nI j := h8
  rw [nI_ltI (by omega) (by omega)] at q
  show vp_in (nI j + nI 9) 29
  rw [nI_add]
  exact vp_in_nI (by omega) (by omega)
-- the two sides
def cf_inv (k : Nat → Int32) : Prop := k 20 &&& 1092 = k 20 ∧ k 21 &&& 1092 = k 21 ∧ k 24 &&& 1092 = k 24 ∧ k 1 &&& 546 = k 1
theorem cf_pend_eq (k : Nat → Int32) (tm al : Int64) (ln : Int32) : mf_pend k tm al ln = cf_pend k tm al ln := by
  unfold mf_pend cf_pend
  by_cases h1 : lg_cmp tm al < 0
  · rw [if_pos h1, if_pos h1, cf_or0]
    by_cases h2 : ln = 0
    · rw [if_pos h2, if_pos h2, cf_or0]
    · rw [if_neg h2, if_neg h2]
  · rw [if_neg h1, if_neg h1]
    by_cases h2 : ln = 0
    · rw [if_pos h2, if_pos h2, cf_or0]
    · rw [if_neg h2, if_neg h2]
theorem cf_m31 : bt 1092 31 = false := by decide +kernel
theorem cf_tell_eq {k : Nat → Int32} (hi : cf_inv k) (tm al : Int64) (ln : Int32) {x : Int32} (hx : vp_in x 29) : mf_tell k tm al ln x = cf_told k tm al ln x := by
  obtain ⟨h20, h21, h24, h1⟩ := hi
  rw [vp_in_iff] at hx
  unfold mf_tell cf_told
  rw [cf_pend_eq, cf_sh1 (y := k 21 &&& k 20) (by rw [b_and, cf_sbt h20 cf_m31, Bool.and_false]), cf_sh1 (y := k 24 &&& k 20) (by rw [b_and, cf_sbt h20 cf_m31, Bool.and_false]), cf_hi]
  rw [if_neg (c := x < 0) (by rw [Int32.lt_iff_toInt_lt]; exact Int.not_lt.mpr hx.1), if_neg (c := 29 ≤ x) (by rw [Int32.le_iff_toInt_le]; exact Int.not_le.mpr hx.2)]
theorem cf_ofS_eq {x : Int32} (hx : vp_in x 29) : cf_ofS x = 0 ↔ 8 < x := by
  obtain ⟨j, hj, rfl⟩ := vp_in_of hx (by decide)
  exact (by decide +kernel : ∀ j, j < 29 → (cf_ofS (nI j) = 0 ↔ 8 < nI j)) j hj
theorem cf_perm_eq (k : Nat → Int32) (md w : Int32) {x : Int32} (hx : x = -1 ∨ vp_in x 29) : mf_ref k md x w = cf_perm k md x w := by
  unfold mf_ref cf_perm cf_perm2 mf_ref2
  by_cases e : x = -1
  · rw [if_pos e, if_pos e]
  · have hx : vp_in x 29 := hx.resolve_left e
    rw [if_neg e, if_neg e]
    by_cases ht : cf_ofT x = 0
    · simp only [if_pos ht]
      by_cases h1 : md = 1
      · simp only [if_pos h1, ite_self]
      · simp only [if_neg h1, ite_self]
        by_cases h0 : md = 0
        · simp only [if_pos h0]
        · simp only [if_neg h0]
          by_cases h3 : md = 3
          · simp only [if_pos h3]
            by_cases h8 : 8 < x
            · rw [if_pos h8, if_pos ((cf_ofS_eq hx).mpr h8)]
            · rw [if_neg h8, if_neg (fun q => h8 ((cf_ofS_eq hx).mp q))]
              unfold cf_trap
              by_cases he : x = 8
              · rw [if_pos he, if_pos he]
                have q1 : mf_has k 18 20 = 0 ↔ bt (k 18) 20 = false := cf_has_eq k 18 20 (by omega)
                have q2 := cf_msk (k 18) 1048576 20 (by omega) cf_mV
                by_cases hb : bt (k 18) 20 = false
                · rw [if_pos (q1.mpr hb), if_pos (q2.mpr hb), if_pos cf_p00]
                · rw [if_neg (fun q => hb (q1.mp q)), if_neg (fun q => hb (q2.mp q)), if_neg cf_n10]
              · rw [if_neg he, if_neg he, if_pos cf_p00]
          · simp only [if_neg h3]
    · simp only [if_neg ht, ite_self]
theorem mf_ref_vals (k : Nat → Int32) (md x w : Int32) : mf_ref k md x w = 0 ∨ mf_ref k md x w = 2 ∨ mf_ref k md x w = 22 := by
  unfold mf_ref mf_ref2
  repeat' split
  all_goals simp
theorem mf_ref_le (k : Nat → Int32) (md x w : Int32) : mf_ref k md x w ≤ 0 ↔ mf_ref k md x w = 0 := by
  rcases mf_ref_vals k md x w with h | h | h <;> rw [h] <;> decide
theorem cf_kd {kd : Int32} (h : ¬ kd < 0) : kd ≤ 0 ↔ kd = 0 := by
  rw [Int32.lt_iff_toInt_lt] at h
  rw [Int32.le_iff_toInt_le, ← Int32.toInt_inj]
  have e0 : (0 : Int32).toInt = 0 := by decide
  omega
theorem cf_bit_eq {kd : Int32} (h : ¬ kd < 0) : mf_bit kd = cf_bit kd := by
  unfold mf_bit cf_bit
  by_cases e : kd = 0
  · rw [if_pos e, if_pos ((cf_kd h).mpr e)]
  · rw [if_neg e, if_neg (fun q => e ((cf_kd h).mp q))]
theorem cf_at_eq (md : Int32) {x : Int32} (hx : vp_in x 29) : mf_at md x = cf_at md x := by
  unfold mf_at cf_at
  by_cases h3 : md = 3
  · rw [if_pos h3, if_pos h3]
    by_cases h8 : 8 < x
    · rw [if_pos h8, if_pos ((cf_ofS_eq hx).mpr h8)]
    · rw [if_neg h8, if_neg (fun q => h8 ((cf_ofS_eq hx).mp q))]
  · rw [if_neg h3, if_neg h3]
theorem cf_at_rng (md : Int32) {x : Int32} (hx : vp_in x 29) (h27 : ¬ x = 27) (h28 : ¬ x = 28) : vp_in (cf_at md x) 27 := by
  rw [← cf_at_eq md hx]
  obtain ⟨j, hj, rfl⟩ := vp_in_of hx (by decide)
  have a : j ≠ 27 := fun q => h27 (by rw [q]; rfl)
  have b : j ≠ 28 := fun q => h28 (by rw [q]; rfl)
  have hj2 : vp_in (nI j) 27 := vp_in_nI (by omega) (by omega)
  unfold mf_at
  by_cases h3 : md = 3
  · rw [if_pos h3]
    by_cases h8 : 8 < nI j
    · rw [if_pos h8]; exact hj2
    · rw [if_neg h8]
      have q : ¬ nI 8 < nI j := h8
      rw [nI_ltI (by omega) (by omega)] at q
      show vp_in (nI j + nI 9) 27
      rw [nI_add]
      exact vp_in_nI (by omega) (by omega)
  · rw [if_neg h3]; exact hj2
theorem cf_at_29 (md : Int32) {x : Int32} (hx : vp_in x 29) : vp_in (cf_at md x) 29 := by
  rw [← cf_at_eq md hx]
  unfold mf_at
  by_cases h3 : md = 3
  · rw [if_pos h3]
    by_cases h8 : 8 < x
    · rw [if_pos h8]; exact hx
    · rw [if_neg h8]; exact mf_in2 hx h8
  · rw [if_neg h3]; exact hx
theorem cf_keep_eq : ∀ j, j < 27 → j ≠ 10 → j ≠ 16 → j ≠ 23 → mf_mask (nI j) = cf_keep j := by decide +kernel
theorem cf_putB_lit (k : Nat → Int32) (j : Nat) (hj : j < 29) (v b : Int32) : cf_putB k (nI j) v b = upd k j ((k j &&& (b ^^^ -1)) ||| (v &&& b)) := by
  unfold cf_putB
  rw [if_neg (nI_pos (by omega)), if_neg (show ¬ (29 : Int32) ≤ nI j from nI_ge hj (by decide)), nI_clamp (by omega)]
theorem mf_put_lit (k : Nat → Int32) (j : Nat) (hj : j < 29) (b v : Int32) : mf_put k (nI j) b v = upd k j ((k j &&& (b ^^^ -1)) ||| (v &&& b)) := by
  unfold mf_put
  rw [nI_clamp (by omega)]
/-- what a write makes of the row, in one form -/
theorem cf_put_nat (k : Nat → Int32) (j : Nat) (hj : j < 29) (v : Int32) : cf_put k (nI j) v = if j = 10 then upd k 21 ((k 21 &&& (k 20 ^^^ -1)) ||| ((v <<< ((1 : Int32) &&& 31)) &&& k 20)) else if j = 16 then upd k 24 ((k 24 &&& ((4 &&& k 20) ^^^ -1)) ||| ((v <<< ((1 : Int32) &&& 31)) &&& (4 &&& k 20))) else if j = 23 then upd k 24 ((k 24 &&& (4 ^^^ -1)) ||| (v &&& 4)) else upd k j (v &&& cf_keep j) := by
  unfold cf_put
  have h10 : nI j = 10 ↔ j = 10 := nI_eq (b := 10) (by omega) (by omega)
  have h16 : nI j = 16 ↔ j = 16 := nI_eq (b := 16) (by omega) (by omega)
  have h23 : nI j = 23 ↔ j = 23 := nI_eq (b := 23) (by omega) (by omega)
  by_cases e10 : j = 10
  · rw [if_pos (h10.mpr e10), if_pos e10]; exact cf_putB_lit k 21 (by omega) _ _
  rw [if_neg (fun q => e10 (h10.mp q)), if_neg e10]
  by_cases e16 : j = 16
  · rw [if_pos (h16.mpr e16), if_pos e16]; exact cf_putB_lit k 24 (by omega) _ _
  rw [if_neg (fun q => e16 (h16.mp q)), if_neg e16]
  by_cases e23 : j = 23
  · rw [if_pos (h23.mpr e23), if_pos e23]; exact cf_putB_lit k 24 (by omega) _ _
  rw [if_neg (fun q => e23 (h23.mp q)), if_neg e23]
  rw [if_neg (nI_pos (by omega)), if_neg (show ¬ (29 : Int32) ≤ nI j from nI_ge hj (by decide)), nI_clamp (by omega)]
theorem cf_put_eq {k : Nat → Int32} (hi : cf_inv k) (v : Int32) {x : Int32} (hx : vp_in x 27) : mf_write k x v = cf_put k x v := by
  obtain ⟨h20, h21, h24, h1⟩ := hi
  obtain ⟨j, hj, rfl⟩ := vp_in_of hx (by decide)
  rw [cf_put_nat k j (by omega) v]
  unfold mf_write
  have h10 : nI j = 10 ↔ j = 10 := nI_eq (b := 10) (by omega) (by omega)
  have h16 : nI j = 16 ↔ j = 16 := nI_eq (b := 16) (by omega) (by omega)
  have h23 : nI j = 23 ↔ j = 23 := nI_eq (b := 23) (by omega) (by omega)
  by_cases e10 : j = 10
  · rw [if_pos (h10.mpr e10), if_pos e10, h20]; exact mf_put_lit k 21 (by omega) _ _
  rw [if_neg (fun q => e10 (h10.mp q)), if_neg e10]
  by_cases e16 : j = 16
  · rw [if_pos (h16.mpr e16), if_pos e16, cf_comm (k 20) 4]; exact mf_put_lit k 24 (by omega) _ _
  rw [if_neg (fun q => e16 (h16.mp q)), if_neg e16]
  by_cases e23 : j = 23
  · rw [if_pos (h23.mpr e23), if_pos e23]; exact mf_put_lit k 24 (by omega) _ _
  rw [if_neg (fun q => e23 (h23.mp q)), if_neg e23, mf_put_lit k j (by omega), cf_all, cf_keep_eq j hj e10 e16 e23]
theorem cf_upd_s (f : Nat → Int32) (j : Nat) (x : Int32) : upd f j x j = x := pk_us
theorem cf_upd_n (f : Nat → Int32) {i j : Nat} (x : Int32) (h : i ≠ j) : upd f j x i = f i := pk_un h
theorem cf_inv_put {k : Nat → Int32} (hi : cf_inv k) (v : Int32) {x : Int32} (hx : vp_in x 27) : cf_inv (cf_put k x v) := by
  obtain ⟨h20, h21, h24, h1⟩ := hi
  obtain ⟨j, hj, rfl⟩ := vp_in_of hx (by decide)
  rw [cf_put_nat k j (by omega) v]
  have m4 : (4 : Int32) &&& 1092 = 4 := by decide
  have f4 : (4 &&& k 20) &&& 1092 = 4 &&& k 20 := cf_sb2 4 h20
  by_cases e10 : j = 10
  · rw [if_pos e10]
    refine ⟨?_, ?_, ?_, ?_⟩
    · rw [cf_upd_n _ _ (by decide)]; exact h20
    · rw [cf_upd_s]; exact cf_sb3 (cf_sb1 _ h21) (cf_sb2 _ h20)
    · rw [cf_upd_n _ _ (by decide)]; exact h24
    · rw [cf_upd_n _ _ (by decide)]; exact h1
  rw [if_neg e10]
  by_cases e16 : j = 16
  · rw [if_pos e16]
    refine ⟨?_, ?_, ?_, ?_⟩
    · rw [cf_upd_n _ _ (by decide)]; exact h20
    · rw [cf_upd_n _ _ (by decide)]; exact h21
    · rw [cf_upd_s]; exact cf_sb3 (cf_sb1 _ h24) (cf_sb2 _ f4)
    · rw [cf_upd_n _ _ (by decide)]; exact h1
  rw [if_neg e16]
  by_cases e23 : j = 23
  · rw [if_pos e23]
    refine ⟨?_, ?_, ?_, ?_⟩
    · rw [cf_upd_n _ _ (by decide)]; exact h20
    · rw [cf_upd_n _ _ (by decide)]; exact h21
    · rw [cf_upd_s]; exact cf_sb3 (cf_sb1 _ h24) (cf_sb2 _ m4)
    · rw [cf_upd_n _ _ (by decide)]; exact h1
  rw [if_neg e23]
  have key : ∀ (i : Nat) (m : Int32), cf_keep i = m → k i &&& m = k i → upd k j (v &&& cf_keep j) i &&& m = upd k j (v &&& cf_keep j) i := by
    intro i m hm hk
    by_cases e : i = j
    · subst e
      rw [cf_upd_s, hm]
      exact cf_sb4 v m
    · rw [cf_upd_n _ _ e]
      exact hk
  exact ⟨key 20 1092 (by decide) h20, key 21 1092 (by decide) h21, key 24 1092 (by decide) h24, key 1 546 (by decide) h1⟩
theorem cf_inv_fill (k : Nat → Int32) : cf_inv (cf_fill k 0 29) := by
  have e : ∀ j, j < 29 → cf_fill k 0 29 j = 0 := fun j h => if_pos h
  unfold cf_inv
  rw [e 20 (by omega), e 21 (by omega), e 24 (by omega), e 1 (by omega)]
  decide
-- access
theorem cf_time_off {k : Nat → Int32} {md x w : Int32} (hw : ¬ w = 0) (h : cf_perm k md x w = 0) : ¬ x = 27 ∧ ¬ x = 28 := by
  constructor
  · intro e
    subst e
    unfold cf_perm at h
    rw [if_neg (by decide), if_neg hw, if_neg (by decide)] at h
    exact absurd h (by decide)
  · intro e
    subst e
    unfold cf_perm at h
    rw [if_neg (by decide), if_neg hw, if_neg (by decide)] at h
    exact absurd h (by decide)
theorem cf_perm_in {k : Nat → Int32} {md n w : Int32} (h : cf_perm k md (cf_slot n) w = 0) : vp_in (cf_slot n) 29 := by
  rcases cf_slot_rng n with q | q
  · rw [cf_perm, if_pos q] at h
    exact absurd h (by decide)
  · exact q
theorem cf_accR_eq (k : Nat → Int32) (md n kd : Int32) : mf_accR k md n kd = cf_accR k md n kd := by
  unfold mf_accR cf_accR
  by_cases h0 : kd < 0
  · rw [if_pos h0, if_pos h0]
  rw [if_neg h0, if_neg h0]
  by_cases h3 : kd ≤ 3
  · rw [if_pos h3, if_pos h3, cf_bit_eq h0, cf_place, cf_perm_eq k md _ (cf_slot_rng n)]
    have q := mf_ref_le k md (cf_slot n) (cf_bit kd)
    rw [cf_perm_eq k md _ (cf_slot_rng n)] at q
    by_cases e : cf_perm k md (cf_slot n) (cf_bit kd) = 0
    · rw [if_pos e, if_pos (q.mpr e)]
    · rw [if_neg e, if_neg (fun z => e (q.mp z))]
  · rw [if_neg h3, if_neg h3]
theorem cf_accO_eq {k : Nat → Int32} (hi : cf_inv k) (md : Int32) (tm al : Int64) (ln od n kd : Int32) : mf_accO k md tm al ln od n kd = cf_accO k md tm al ln od n kd := by
  unfold mf_accO cf_accO
  by_cases h0 : kd < 0
  · rw [if_pos h0, if_pos h0]
  rw [if_neg h0, if_neg h0]
  by_cases h3 : kd ≤ 3
  · rw [if_pos h3, if_pos h3, cf_bit_eq h0, cf_place, cf_perm_eq k md _ (cf_slot_rng n)]
    have q := mf_ref_le k md (cf_slot n) (cf_bit kd)
    rw [cf_perm_eq k md _ (cf_slot_rng n)] at q
    by_cases e : cf_perm k md (cf_slot n) (cf_bit kd) = 0
    · rw [if_pos e, if_pos (q.mpr e), cf_at_eq md (cf_perm_in e), cf_tell_eq hi tm al ln (cf_at_29 md (cf_perm_in e))]
    · rw [if_neg e, if_neg (fun z => e (q.mp z))]
  · rw [if_neg h3, if_neg h3]
theorem cf_accK_eq {k : Nat → Int32} (hi : cf_inv k) (md : Int32) (tm al : Int64) (ln n kd v : Int32) : mf_accK k md tm al ln n kd v = cf_accK k md tm al ln n kd v ∧ cf_inv (cf_accK k md tm al ln n kd v) := by
  unfold mf_accK cf_accK
  by_cases h0 : kd < 0
  · rw [if_pos h0, if_pos h0]; exact ⟨rfl, hi⟩
  rw [if_neg h0, if_neg h0]
  by_cases h3 : kd ≤ 3
  · rw [if_pos h3, if_pos h3, cf_bit_eq h0, cf_place, cf_perm_eq k md _ (cf_slot_rng n)]
    have q := mf_ref_le k md (cf_slot n) (cf_bit kd)
    rw [cf_perm_eq k md _ (cf_slot_rng n)] at q
    by_cases e : cf_perm k md (cf_slot n) (cf_bit kd) = 0
    · rw [if_pos e, if_pos (q.mpr e)]
      by_cases k0 : kd = 0
      · rw [if_pos k0, if_pos ((cf_kd h0).mpr k0)]; exact ⟨rfl, hi⟩
      · rw [if_neg k0, if_neg (fun z => k0 ((cf_kd h0).mp z)), cf_at_eq md (cf_perm_in e), cf_tell_eq hi tm al ln (cf_at_29 md (cf_perm_in e))]
        have hw : ¬ cf_bit kd = 0 := by unfold cf_bit; rw [if_neg k0]; decide
        have ht := cf_time_off hw e
        have hr := cf_at_rng md (cf_perm_in e) ht.1 ht.2
        exact ⟨cf_put_eq hi _ hr, cf_inv_put hi _ hr⟩
    · rw [if_neg e, if_neg (fun z => e (q.mp z))]; exact ⟨rfl, hi⟩
  · rw [if_neg h3, if_neg h3]; exact ⟨rfl, hi⟩
-- control, used
theorem cf_ctl_eq {k : Nat → Int32} (hi : cf_inv k) (tm al : Int64) (ln n : Int32) : mf_ctl k tm al ln n = cf_told k tm al ln (cf_slot n) := by
  unfold mf_ctl
  rw [cf_place]
  by_cases e : cf_slot n = -1
  · rw [if_pos e, e]
    unfold cf_told
    rw [if_neg (by decide), if_neg (by decide), if_neg (by decide), if_neg (by decide), if_neg (by decide), if_neg (by decide), if_pos (by decide)]
  · rw [if_neg e]
    exact cf_tell_eq hi tm al ln ((cf_slot_rng n).resolve_left e)
theorem cf_cnt_eq {f g : Nat → Int32} : ∀ i, (∀ j, j < i → g j = f j) → mf_cnt g i = cf_cnt f i := by
  intro i
  induction i with
  | zero => intro _; rfl
  | succ i ih =>
    intro h
    rw [mf_cnt, cf_cnt, h i (by omega), ih (fun j hj => h j (by omega))]
    by_cases e : f i = 0
    · rw [if_pos e, if_pos e, Int32.add_zero]
    · rw [if_neg e, if_neg e]
theorem cf_used_eq {k : Nat → Int32} (hi : cf_inv k) (tm al : Int64) (ln : Int32) : mf_used k tm al ln = cf_used k tm al ln := cf_cnt_eq 29 (fun j hj => cf_tell_eq hi tm al ln (vp_in_nI hj (by omega)))
-- due
theorem cf_fu (y : Int32) (b : Nat) (hb : b < 32) (P Q : Int32) : (if cf_ush y (nI b) &&& 1 = 0 then P else Q) = if bt y b = true then Q else P := by
  rw [cf_bu y b hb]
  cases bt y b
  · rfl
  · rfl
theorem cf_fm (y : Int32) (b : Nat) (hb : b < 32) (P Q : Int32) : (if (y >>> (nI b &&& 31)) &&& 1 = 1 then P else Q) = if bt y b = true then P else Q := by
  rw [cf_bs y b hb]
  cases bt y b
  · rfl
  · rfl
theorem cf_fS (y : Int32) : cf_fst cf_so y 0 6 = if bt y 9 = true then 9 else if bt y 1 = true then 1 else if bt y 5 = true then 5 else if bt y 10 = true then 10 else if bt y 2 = true then 2 else if bt y 6 = true then 6 else -1 := by
  show (if cf_ush y (nI 9) &&& 1 = 0 then (if cf_ush y (nI 1) &&& 1 = 0 then (if cf_ush y (nI 5) &&& 1 = 0 then (if cf_ush y (nI 10) &&& 1 = 0 then (if cf_ush y (nI 2) &&& 1 = 0 then (if cf_ush y (nI 6) &&& 1 = 0 then (-1 : Int32) else 6) else 2) else 10) else 5) else 1) else 9) = _
  rw [cf_fu y 9 (by omega), cf_fu y 1 (by omega), cf_fu y 5 (by omega), cf_fu y 10 (by omega), cf_fu y 2 (by omega), cf_fu y 6 (by omega)]
theorem cf_fV (y : Int32) : cf_fst cf_vo y 0 3 = if bt y 10 = true then 10 else if bt y 2 = true then 2 else if bt y 6 = true then 6 else -1 := by
  show (if cf_ush y (nI 10) &&& 1 = 0 then (if cf_ush y (nI 2) &&& 1 = 0 then (if cf_ush y (nI 6) &&& 1 = 0 then (-1 : Int32) else 6) else 2) else 10) = _
  rw [cf_fu y 10 (by omega), cf_fu y 2 (by omega), cf_fu y 6 (by omega)]
theorem cf_f3 (y : Int32) (a b d : Nat) (ha : a < 32) (hb : b < 32) (hd : d < 32) : mf_fst y (nI a) (nI b) (nI d) = if bt y a = true then nI a else if bt y b = true then nI b else if bt y d = true then nI d else -1 := by
  unfold mf_fst
  rw [cf_fm y a ha, cf_fm y b hb, cf_fm y d hd]
theorem cf_dV_eq (k : Nat → Int32) (md : Int32) : mf_dV k md = cf_dV k md := by
  have e : mf_dV1 k = cf_dV1 k := by
    unfold mf_dV1 cf_dV1
    rw [show mf_vi k = if bt (k 24 &&& k 21 &&& k 20) 10 = true then 10 else if bt (k 24 &&& k 21 &&& k 20) 2 = true then 2 else if bt (k 24 &&& k 21 &&& k 20) 6 = true then 6 else -1 from cf_f3 (k 24 &&& k 21 &&& k 20) 10 2 6 (by omega) (by omega) (by omega), cf_fV]
    cases bt (k 24 &&& k 21 &&& k 20) 10 <;> cases bt (k 24 &&& k 21 &&& k 20) 2 <;> cases bt (k 24 &&& k 21 &&& k 20) 6 <;> decide
  unfold mf_dV cf_dV
  rw [e]
  have q1 : mf_has k 9 1 = 0 ↔ bt (k 9) 1 = false := cf_has_eq k 9 1 (by omega)
  have q2 := cf_msk (k 9) 2 1 (by omega) cf_m2
  by_cases hb : bt (k 9) 1 = false
  · rw [if_pos (q1.mpr hb), if_pos (q2.mpr hb)]
  · rw [if_neg (fun q => hb (q1.mp q)), if_neg (fun q => hb (q2.mp q))]
theorem cf_due_eq {k : Nat → Int32} (hi : cf_inv k) (md : Int32) (tm al : Int64) (ln : Int32) : mf_due k md tm al ln = cf_due k md tm al ln := by
  obtain ⟨h20, h21, h24, h1⟩ := hi
  unfold mf_due cf_due
  rw [cf_dV_eq]
  have q1 : mf_has k 0 1 = 0 ↔ bt (k 0) 1 = false := cf_has_eq k 0 1 (by omega)
  have q2 := cf_msk (k 0) 2 1 (by omega) cf_m2
  have hS : mf_dS k md tm al ln = if cf_dS1 k tm al ln = -1 then cf_dV k md else cf_dS1 k tm al ln := by
    unfold mf_dS cf_dS1
    rw [cf_dV_eq]
    have e1 : mf_tell k tm al ln 7 = cf_pend k tm al ln := by
      unfold mf_tell
      rw [if_pos rfl, cf_pend_eq]
    have eo : mf_own k tm al ln = if bt (cf_pend k tm al ln &&& k 1) 9 = true then 9 else if bt (cf_pend k tm al ln &&& k 1) 1 = true then 1 else if bt (cf_pend k tm al ln &&& k 1) 5 = true then 5 else -1 := by
      unfold mf_own
      rw [e1]
      exact cf_f3 _ 9 1 5 (by omega) (by omega) (by omega)
    have eh : mf_hy k = if bt (k 24 &&& k 21 &&& (k 20 ^^^ -1)) 10 = true then 10 else if bt (k 24 &&& k 21 &&& (k 20 ^^^ -1)) 2 = true then 2 else if bt (k 24 &&& k 21 &&& (k 20 ^^^ -1)) 6 = true then 6 else -1 := cf_f3 _ 10 2 6 (by omega) (by omega) (by omega)
    rw [eo, eh, cf_fS]
    have z1 : ∀ i, bt 546 i = false → bt (cf_pend k tm al ln &&& k 1) i = false := fun i hm => by rw [b_and, cf_sbt h1 hm, Bool.and_false]
    have z2 : ∀ i, bt 1092 i = false → bt (k 24 &&& k 21 &&& (k 20 ^^^ -1)) i = false := fun i hm => by rw [b_and, b_and, cf_sbt h24 hm, Bool.false_and, Bool.false_and]
    simp only [b_or]
    rw [z1 10 (by decide +kernel), z1 2 (by decide +kernel), z1 6 (by decide +kernel), z2 9 (by decide +kernel), z2 1 (by decide +kernel), z2 5 (by decide +kernel)]
    simp only [Bool.or_false, Bool.false_or]
    generalize cf_dV k md = V
    cases bt (cf_pend k tm al ln &&& k 1) 9 <;> cases bt (cf_pend k tm al ln &&& k 1) 1 <;> cases bt (cf_pend k tm al ln &&& k 1) 5 <;> cases bt (k 24 &&& k 21 &&& (k 20 ^^^ -1)) 10 <;> cases bt (k 24 &&& k 21 &&& (k 20 ^^^ -1)) 2 <;> cases bt (k 24 &&& k 21 &&& (k 20 ^^^ -1)) 6 <;> first | rfl | simp
  rw [hS]
  unfold cf_dS
  by_cases m1 : md = 1
  · rw [if_pos m1, if_pos m1]
    by_cases hb : bt (k 0) 1 = false
    · rw [if_pos (q1.mpr hb), if_pos (q2.mpr hb), if_pos rfl]
    · rw [if_neg (fun q => hb (q1.mp q)), if_neg (fun q => hb (q2.mp q))]
  · rw [if_neg m1, if_neg m1]
end
section
set_option maxHeartbeats 4000000 in
set_option maxRecDepth 100000 in
theorem c_slotOf (l : Launch) (D : va_G) (z : Nat → Nat) (n : Int32) : Met l yX0_slotOf wsX0_slotOf ({ frames := 0, cells := 0, slots := 0, locals := 0 } : Room) (cf_ro [.int n] D [] [] z) (vp_Si (fun r => r = cf_slot n)) 0 0 (fun _ => False) := by
  refine Met.ofW (cc := cX0_slotOf) (maxL := 2) (ret := (some .int)) (by decide) rfl ?_
  intro p e s m args below meth c s₁ B hml hv
  obtain ⟨rfl, hP, hK, hZ⟩ := hv
  have hx := B.exec
  have hb := B.bytes
  have hr := B.returns
  have hts := atoms_spec (ws := wsX0_slotOf) B.pre
  have hown : s.vm.findClass RX0 = some m.cls := findClass_of_methodNamed B.named
  have hlocks := B.notSynchronized
  have hS : va_S (fun _ => False) s.heap s.heap [] := va_S.rf
  have hl := lv_entry ([.int n]) (n := 2) (Nat.le_of_ble_eq_true rfl)
  rw [lg_entry_eq]
  generalize (lg_sl ([.int n]) ++ List.replicate (2 - (lg_sl ([.int n])).length) Slot.unset).toArray = ls at hl ⊢
  have hl : lv_has ls 2 [(0, .int n)] := hl
  refine lv_iconst (v := 0) hx hb dX0_slotOf_0 (by decide) ?_
  refine lv_istore_n (lv' := [(1, .int 0), (0, .int n)]) hx hb dX0_slotOf_1 rfl hl (by decide) rfl (fun ls hl => ?_)
  refine cf_ind (G := W p l e _ s m _ below meth c s.heap [] 0 0 _) 29 (fun i ls => lv_has ls 2 [(1, .int (nI i)), (0, .int n)] ∧ cf_slot n = cf_sl n i (29 - i)) ?_ ?_ 29 0 ls rfl (by omega) ⟨hl, rfl⟩
  · intro i ls hi hI ih
    obtain ⟨hl, hq⟩ := hI
    rw [show 29 - i = (29 - (i + 1)) + 1 by omega] at hq
    refine lv_iload_n hx hb dX0_slotOf_2 rfl (lv_at hl 0 rfl) ?_
    refine va_gets (C := RX0) (ref := RX0) hx hb hZ.1.1 hS hown (hts (.fieldLink RX0 74 "ControlFile" "NUMBERS" "[I") (by decide +kernel)) (fun _ h9 => h9) dX0_slotOf_3 ?_
    refine va_tlen (v := 29) hx hb hZ.1.2 hS rfl dX0_slotOf_6 ?_
    refine lv_icmp_ge (tgt := 27) hx hb dX0_slotOf_7 (by decide) (fun c_1 => ?_) (fun c_1 => ?_)
    · skip
      exact absurd c_1 (show ¬ (29 : Int32) ≤ nI i from nI_ge hi (by decide))
    · skip
      refine va_gets (C := RX0) (ref := RX0) hx hb hZ.1.1 hS hown (hts (.fieldLink RX0 74 "ControlFile" "NUMBERS" "[I") (by decide +kernel)) (fun _ h9 => h9) dX0_slotOf_10 ?_
      refine lv_iload_n hx hb dX0_slotOf_13 rfl (lv_at hl 0 rfl) ?_
      refine va_ti (v := .int (cf_num i)) hx hb hZ.1.2 hS (vp_in_nI hi (by omega)) (congrArg (fun j => Value.int (cf_num j)) (nI_clamp (by omega))) dX0_slotOf_14 ?_
      refine lv_iload_n hx hb dX0_slotOf_15 rfl (lv_at hl 1 rfl) ?_
      refine lv_icmp_ne (tgt := 21) hx hb dX0_slotOf_16 (by decide) (fun c_2 => ?_) (fun c_2 => ?_)
      · skip
        refine lv_iinc (v := nI (i + 1)) (lv' := [(1, .int (nI (i + 1))), (0, .int n)]) hx hb dX0_slotOf_21 hl (k := 0) rfl (nI_1 i) (by decide) rfl (fun ls hl => ?_)
        refine lv_goto (tgt := 2) hx hb dX0_slotOf_24 (by decide) ?_
        exact ih ls ⟨lv_sub hl [0, 1] rfl, by rw [hq, cf_sl, if_neg c_2]⟩
      · skip
        refine lv_iload_n hx hb dX0_slotOf_19 rfl (lv_at hl 0 rfl) ?_
        exact cf_roEnd hx hb hr hlocks (by rw [hq, cf_sl, if_pos c_2]) dX0_slotOf_20
  · intro ls hI
    obtain ⟨hl, hq⟩ := hI
    refine lv_iload_n hx hb dX0_slotOf_2 rfl (lv_at hl 0 rfl) ?_
    refine va_gets (C := RX0) (ref := RX0) hx hb hZ.1.1 hS hown (hts (.fieldLink RX0 74 "ControlFile" "NUMBERS" "[I") (by decide +kernel)) (fun _ h9 => h9) dX0_slotOf_3 ?_
    refine va_tlen (v := 29) hx hb hZ.1.2 hS rfl dX0_slotOf_6 ?_
    refine lv_icmp_ge (tgt := 27) hx hb dX0_slotOf_7 (by decide) (fun c_3 => ?_) (fun c_3 => ?_)
    · skip
      refine lv_iconst (v := -1) hx hb dX0_slotOf_27 (by decide) ?_
      exact cf_roEnd hx hb hr hlocks (by rw [hq]; rfl) dX0_slotOf_28
    · skip
      exact absurd (show (29 : Int32) ≤ nI 29 by decide) c_3
set_option maxHeartbeats 4000000 in
set_option maxRecDepth 100000 in
theorem c_isOfS (l : Launch) (D : va_G) (z : Nat → Nat) (x : Int32) : Met l yX0_isOfS wsX0_isOfS ({ frames := 0, cells := 0, slots := 0, locals := 0 } : Room) (cf_ro [.int x] D [] [] z) (vp_Si (fun r => r = cf_ofS x)) 0 0 (fun _ => False) := by
  refine Met.ofW (cc := cX0_isOfS) (maxL := 1) (ret := (some .boolean)) (by decide) rfl ?_
  intro p e s m args below meth c s₁ B hml hv
  obtain ⟨rfl, hP, hK, hZ⟩ := hv
  have hx := B.exec
  have hb := B.bytes
  have hr := B.returns
  have hts := atoms_spec (ws := wsX0_isOfS) B.pre
  have hown : s.vm.findClass RX0 = some m.cls := findClass_of_methodNamed B.named
  have hlocks := B.notSynchronized
  have hS : va_S (fun _ => False) s.heap s.heap [] := va_S.rf
  have hl := lv_entry ([.int x]) (n := 1) (Nat.le_of_ble_eq_true rfl)
  rw [lg_entry_eq]
  generalize (lg_sl ([.int x]) ++ List.replicate (1 - (lg_sl ([.int x])).length) Slot.unset).toArray = ls at hl ⊢
  have hl : lv_has ls 1 [(0, .int x)] := hl
  refine lv_iload_n hx hb dX0_isOfS_0 rfl (lv_at hl 0 rfl) ?_
  refine lv_if_lt (tgt := 14) hx hb dX0_isOfS_1 (by decide) (fun c_1 => ?_) (fun c_1 => ?_)
  · skip
    refine lv_iconst (v := 0) hx hb dX0_isOfS_14 (by decide) ?_
    exact cf_roEndZ hx hb hr hlocks rfl (by simp only [cf_ofS, if_pos c_1, if_neg cf_n10, if_pos cf_p00, ↓reduceIte]) dX0_isOfS_15
  · skip
    refine lv_iload_n hx hb dX0_isOfS_4 rfl (lv_at hl 0 rfl) ?_
    refine lv_bipush (v := 9) hx hb dX0_isOfS_5 (by decide) ?_
    refine lv_icmp_ge (tgt := 14) hx hb dX0_isOfS_7 (by decide) (fun c_2 => ?_) (fun c_2 => ?_)
    · skip
      refine lv_iconst (v := 0) hx hb dX0_isOfS_14 (by decide) ?_
      exact cf_roEndZ hx hb hr hlocks rfl (by simp only [cf_ofS, if_neg c_1, if_pos c_2, if_neg cf_n10, if_pos cf_p00, ↓reduceIte]) dX0_isOfS_15
    · skip
      refine lv_iconst (v := 1) hx hb dX0_isOfS_10 (by decide) ?_
      refine lv_goto (tgt := 15) hx hb dX0_isOfS_11 (by decide) ?_
      exact cf_roEndZ hx hb hr hlocks rfl (by simp only [cf_ofS, if_neg c_1, if_neg c_2, if_neg cf_n10, if_pos cf_p00, ↓reduceIte]) dX0_isOfS_15
set_option maxHeartbeats 4000000 in
set_option maxRecDepth 100000 in
theorem c_isOfTime (l : Launch) (D : va_G) (z : Nat → Nat) (x : Int32) : Met l yX0_isOfTime wsX0_isOfTime ({ frames := 0, cells := 0, slots := 0, locals := 0 } : Room) (cf_ro [.int x] D [] [] z) (vp_Si (fun r => r = cf_ofT x)) 0 0 (fun _ => False) := by
  refine Met.ofW (cc := cX0_isOfTime) (maxL := 1) (ret := (some .boolean)) (by decide) rfl ?_
  intro p e s m args below meth c s₁ B hml hv
  obtain ⟨rfl, hP, hK, hZ⟩ := hv
  have hx := B.exec
  have hb := B.bytes
  have hr := B.returns
  have hts := atoms_spec (ws := wsX0_isOfTime) B.pre
  have hown : s.vm.findClass RX0 = some m.cls := findClass_of_methodNamed B.named
  have hlocks := B.notSynchronized
  have hS : va_S (fun _ => False) s.heap s.heap [] := va_S.rf
  have hl := lv_entry ([.int x]) (n := 1) (Nat.le_of_ble_eq_true rfl)
  rw [lg_entry_eq]
  generalize (lg_sl ([.int x]) ++ List.replicate (1 - (lg_sl ([.int x])).length) Slot.unset).toArray = ls at hl ⊢
  have hl : lv_has ls 1 [(0, .int x)] := hl
  refine lv_iload_n hx hb dX0_isOfTime_0 rfl (lv_at hl 0 rfl) ?_
  refine lv_bipush (v := 27) hx hb dX0_isOfTime_1 (by decide) ?_
  refine lv_icmp_eq (tgt := 12) hx hb dX0_isOfTime_3 (by decide) (fun c_1 => ?_) (fun c_1 => ?_)
  · skip
    refine lv_iconst (v := 1) hx hb dX0_isOfTime_12 (by decide) ?_
    refine lv_goto (tgt := 17) hx hb dX0_isOfTime_13 (by decide) ?_
    exact cf_roEndZ hx hb hr hlocks rfl (by simp only [cf_ofT, if_pos c_1, if_neg cf_n10, if_pos cf_p00, ↓reduceIte]) dX0_isOfTime_17
  · skip
    refine lv_iload_n hx hb dX0_isOfTime_6 rfl (lv_at hl 0 rfl) ?_
    refine lv_bipush (v := 28) hx hb dX0_isOfTime_7 (by decide) ?_
    refine lv_icmp_ne (tgt := 16) hx hb dX0_isOfTime_9 (by decide) (fun c_2 => ?_) (fun c_2 => ?_)
    · skip
      refine lv_iconst (v := 0) hx hb dX0_isOfTime_16 (by decide) ?_
      exact cf_roEndZ hx hb hr hlocks rfl (by simp only [cf_ofT, if_neg c_1, if_neg c_2, if_neg cf_n10, if_pos cf_p00, ↓reduceIte]) dX0_isOfTime_17
    · skip
      refine lv_iconst (v := 1) hx hb dX0_isOfTime_12 (by decide) ?_
      refine lv_goto (tgt := 17) hx hb dX0_isOfTime_13 (by decide) ?_
      exact cf_roEndZ hx hb hr hlocks rfl (by simp only [cf_ofT, if_neg c_1, if_pos c_2, if_neg cf_n10, if_pos cf_p00, ↓reduceIte]) dX0_isOfTime_17
set_option maxHeartbeats 4000000 in
set_option maxRecDepth 100000 in
theorem c_written (l : Launch) (D : va_G) (z : Nat → Nat) (b : Int32) (kd : Int32) (v : Int32) : Met l yX0_written wsX0_written ({ frames := 0, cells := 0, slots := 0, locals := 0 } : Room) (cf_ro [.int b, .int kd, .int v] D [] [] z) (vp_Si (fun r => r = cf_wrt b kd v)) 0 0 (fun _ => False) := by
  refine Met.ofW (cc := cX0_written) (maxL := 3) (ret := (some .int)) (by decide) rfl ?_
  intro p e s m args below meth c s₁ B hml hv
  obtain ⟨rfl, hP, hK, hZ⟩ := hv
  have hx := B.exec
  have hb := B.bytes
  have hr := B.returns
  have hts := atoms_spec (ws := wsX0_written) B.pre
  have hown : s.vm.findClass RX0 = some m.cls := findClass_of_methodNamed B.named
  have hlocks := B.notSynchronized
  have hS : va_S (fun _ => False) s.heap s.heap [] := va_S.rf
  have hl := lv_entry ([.int b, .int kd, .int v]) (n := 3) (Nat.le_of_ble_eq_true rfl)
  rw [lg_entry_eq]
  generalize (lg_sl ([.int b, .int kd, .int v]) ++ List.replicate (3 - (lg_sl ([.int b, .int kd, .int v])).length) Slot.unset).toArray = ls at hl ⊢
  have hl : lv_has ls 3 [(0, .int b), (1, .int kd), (2, .int v)] := hl
  refine lv_iload_n hx hb dX0_written_0 rfl (lv_at hl 1 rfl) ?_
  refine lv_iconst (v := 1) hx hb dX0_written_1 (by decide) ?_
  refine lv_icmp_ne (tgt := 7) hx hb dX0_written_2 (by decide) (fun c_1 => ?_) (fun c_1 => ?_)
  · skip
    refine lv_iload_n hx hb dX0_written_7 rfl (lv_at hl 1 rfl) ?_
    refine lv_iconst (v := 2) hx hb dX0_written_8 (by decide) ?_
    refine lv_icmp_ne (tgt := 18) hx hb dX0_written_9 (by decide) (fun c_2 => ?_) (fun c_2 => ?_)
    · skip
      refine lv_iload_n hx hb dX0_written_18 rfl (lv_at hl 0 rfl) ?_
      refine lv_iload_n hx hb dX0_written_19 rfl (lv_at hl 2 rfl) ?_
      refine lv_iconst (v := -1) hx hb dX0_written_20 (by decide) ?_
      refine lv_ixor hx hb dX0_written_21 ?_
      refine lv_iand hx hb dX0_written_22 ?_
      exact cf_roEnd hx hb hr hlocks (by simp only [cf_wrt, if_neg c_1, if_neg c_2, if_neg cf_n10, if_pos cf_p00, ↓reduceIte]) dX0_written_23
    · skip
      refine lv_iload_n hx hb dX0_written_12 rfl (lv_at hl 0 rfl) ?_
      refine lv_iload_n hx hb dX0_written_13 rfl (lv_at hl 2 rfl) ?_
      refine lv_ior hx hb dX0_written_14 ?_
      refine lv_goto (tgt := 23) hx hb dX0_written_15 (by decide) ?_
      exact cf_roEnd hx hb hr hlocks (by simp only [cf_wrt, if_neg c_1, if_pos c_2, if_neg cf_n10, if_pos cf_p00, ↓reduceIte]) dX0_written_23
  · skip
    refine lv_iload_n hx hb dX0_written_5 rfl (lv_at hl 2 rfl) ?_
    exact cf_roEnd hx hb hr hlocks (by simp only [cf_wrt, if_pos c_1, if_neg cf_n10, if_pos cf_p00, ↓reduceIte]) dX0_written_6
set_option maxHeartbeats 4000000 in
set_option maxRecDepth 100000 in
theorem c_firstS (l : Launch) (D : va_G) (z : Nat → Nat) (x : Int32) : Met l yX0_firstOf wsX0_firstOf ({ frames := 0, cells := 0, slots := 0, locals := 0 } : Room) (cf_ro [.ref (z 2), .int x] D [] [] z) (vp_Si (fun r => r = cf_fst cf_so x 0 6)) 0 0 (fun _ => False) := by
  refine Met.ofW (cc := cX0_firstOf) (maxL := 3) (ret := (some .int)) (by decide) rfl ?_
  intro p e s m args below meth c s₁ B hml hv
  obtain ⟨rfl, hP, hK, hZ⟩ := hv
  have hx := B.exec
  have hb := B.bytes
  have hr := B.returns
  have hts := atoms_spec (ws := wsX0_firstOf) B.pre
  have hown : s.vm.findClass RX0 = some m.cls := findClass_of_methodNamed B.named
  have hlocks := B.notSynchronized
  have hS : va_S (fun _ => False) s.heap s.heap [] := va_S.rf
  have hl := lv_entry ([.ref (z 2), .int x]) (n := 3) (Nat.le_of_ble_eq_true rfl)
  rw [lg_entry_eq]
  generalize (lg_sl ([.ref (z 2), .int x]) ++ List.replicate (3 - (lg_sl ([.ref (z 2), .int x])).length) Slot.unset).toArray = ls at hl ⊢
  have hl : lv_has ls 3 [(0, .ref (z 2)), (1, .int x)] := hl
  refine lv_iconst (v := 0) hx hb dX0_firstOf_0 (by decide) ?_
  refine lv_istore_n (lv' := [(2, .int 0), (0, .ref (z 2)), (1, .int x)]) hx hb dX0_firstOf_1 rfl hl (by decide) rfl (fun ls hl => ?_)
  refine cf_ind (G := W p l e _ s m _ below meth c s.heap [] 0 0 _) 6 (fun i ls => lv_has ls 3 [(2, .int (nI i)), (0, .ref (z 2)), (1, .int x)] ∧ cf_fst cf_so x 0 6 = cf_fst cf_so x i (6 - i)) ?_ ?_ 6 0 ls rfl (by omega) ⟨hl, rfl⟩
  · intro i ls hi hI ih
    obtain ⟨hl, hq⟩ := hI
    rw [show 6 - i = (6 - (i + 1)) + 1 by omega] at hq
    refine lv_iload_n hx hb dX0_firstOf_2 rfl (lv_at hl 0 rfl) ?_
    refine lv_aload_n hx hb dX0_firstOf_3 rfl (lv_at hl 1 rfl) ?_
    refine va_tlen (v := 6) hx hb hZ.2.2.1.2 hS rfl dX0_firstOf_4 ?_
    refine lv_icmp_ge (tgt := 28) hx hb dX0_firstOf_5 (by decide) (fun c_1 => ?_) (fun c_1 => ?_)
    · skip
      exact absurd c_1 (show ¬ (6 : Int32) ≤ nI i from nI_ge hi (by decide))
    · skip
      refine lv_iload_n hx hb dX0_firstOf_8 rfl (lv_at hl 2 rfl) ?_
      refine lv_aload_n hx hb dX0_firstOf_9 rfl (lv_at hl 1 rfl) ?_
      refine lv_iload_n hx hb dX0_firstOf_10 rfl (lv_at hl 0 rfl) ?_
      refine va_ti (v := .int (cf_so i)) hx hb hZ.2.2.1.2 hS (vp_in_nI hi (by omega)) (congrArg (fun j => Value.int (cf_so j)) (nI_clamp (by omega))) dX0_firstOf_11 ?_
      refine lv_iushr (v := cf_ush x (cf_so i)) hx hb dX0_firstOf_12 rfl ?_
      refine lv_iconst (v := 1) hx hb dX0_firstOf_13 (by decide) ?_
      refine lv_iand hx hb dX0_firstOf_14 ?_
      refine lv_if_eq (tgt := 22) hx hb dX0_firstOf_15 (by decide) (fun c_2 => ?_) (fun c_2 => ?_)
      · skip
        refine lv_iinc (v := nI (i + 1)) (lv' := [(2, .int (nI (i + 1))), (0, .ref (z 2)), (1, .int x)]) hx hb dX0_firstOf_22 hl (k := 0) rfl (nI_1 i) (by decide) rfl (fun ls hl => ?_)
        refine lv_goto (tgt := 2) hx hb dX0_firstOf_25 (by decide) ?_
        exact ih ls ⟨lv_sub hl [0, 1, 2] rfl, by rw [hq, cf_fst, if_pos c_2]⟩
      · skip
        refine lv_aload_n hx hb dX0_firstOf_18 rfl (lv_at hl 1 rfl) ?_
        refine lv_iload_n hx hb dX0_firstOf_19 rfl (lv_at hl 0 rfl) ?_
        refine va_ti (v := .int (cf_so i)) hx hb hZ.2.2.1.2 hS (vp_in_nI hi (by omega)) (congrArg (fun j => Value.int (cf_so j)) (nI_clamp (by omega))) dX0_firstOf_20 ?_
        exact cf_roEnd hx hb hr hlocks (by rw [hq, cf_fst, if_neg c_2]) dX0_firstOf_21
  · intro ls hI
    obtain ⟨hl, hq⟩ := hI
    refine lv_iload_n hx hb dX0_firstOf_2 rfl (lv_at hl 0 rfl) ?_
    refine lv_aload_n hx hb dX0_firstOf_3 rfl (lv_at hl 1 rfl) ?_
    refine va_tlen (v := 6) hx hb hZ.2.2.1.2 hS rfl dX0_firstOf_4 ?_
    refine lv_icmp_ge (tgt := 28) hx hb dX0_firstOf_5 (by decide) (fun c_3 => ?_) (fun c_3 => ?_)
    · skip
      refine lv_iconst (v := -1) hx hb dX0_firstOf_28 (by decide) ?_
      exact cf_roEnd hx hb hr hlocks (by rw [hq]; rfl) dX0_firstOf_29
    · skip
      exact absurd (show (6 : Int32) ≤ nI 6 by decide) c_3
set_option maxHeartbeats 4000000 in
set_option maxRecDepth 100000 in
theorem c_firstV (l : Launch) (D : va_G) (z : Nat → Nat) (x : Int32) : Met l yX0_firstOf wsX0_firstOf ({ frames := 0, cells := 0, slots := 0, locals := 0 } : Room) (cf_ro [.ref (z 3), .int x] D [] [] z) (vp_Si (fun r => r = cf_fst cf_vo x 0 3)) 0 0 (fun _ => False) := by
  refine Met.ofW (cc := cX0_firstOf) (maxL := 3) (ret := (some .int)) (by decide) rfl ?_
  intro p e s m args below meth c s₁ B hml hv
  obtain ⟨rfl, hP, hK, hZ⟩ := hv
  have hx := B.exec
  have hb := B.bytes
  have hr := B.returns
  have hts := atoms_spec (ws := wsX0_firstOf) B.pre
  have hown : s.vm.findClass RX0 = some m.cls := findClass_of_methodNamed B.named
  have hlocks := B.notSynchronized
  have hS : va_S (fun _ => False) s.heap s.heap [] := va_S.rf
  have hl := lv_entry ([.ref (z 3), .int x]) (n := 3) (Nat.le_of_ble_eq_true rfl)
  rw [lg_entry_eq]
  generalize (lg_sl ([.ref (z 3), .int x]) ++ List.replicate (3 - (lg_sl ([.ref (z 3), .int x])).length) Slot.unset).toArray = ls at hl ⊢
  have hl : lv_has ls 3 [(0, .ref (z 3)), (1, .int x)] := hl
  refine lv_iconst (v := 0) hx hb dX0_firstOf_0 (by decide) ?_
  refine lv_istore_n (lv' := [(2, .int 0), (0, .ref (z 3)), (1, .int x)]) hx hb dX0_firstOf_1 rfl hl (by decide) rfl (fun ls hl => ?_)
  refine cf_ind (G := W p l e _ s m _ below meth c s.heap [] 0 0 _) 3 (fun i ls => lv_has ls 3 [(2, .int (nI i)), (0, .ref (z 3)), (1, .int x)] ∧ cf_fst cf_vo x 0 3 = cf_fst cf_vo x i (3 - i)) ?_ ?_ 3 0 ls rfl (by omega) ⟨hl, rfl⟩
  · intro i ls hi hI ih
    obtain ⟨hl, hq⟩ := hI
    rw [show 3 - i = (3 - (i + 1)) + 1 by omega] at hq
    refine lv_iload_n hx hb dX0_firstOf_2 rfl (lv_at hl 0 rfl) ?_
    refine lv_aload_n hx hb dX0_firstOf_3 rfl (lv_at hl 1 rfl) ?_
    refine va_tlen (v := 3) hx hb hZ.2.2.2.2 hS rfl dX0_firstOf_4 ?_
    refine lv_icmp_ge (tgt := 28) hx hb dX0_firstOf_5 (by decide) (fun c_1 => ?_) (fun c_1 => ?_)
    · skip
      exact absurd c_1 (show ¬ (3 : Int32) ≤ nI i from nI_ge hi (by decide))
    · skip
      refine lv_iload_n hx hb dX0_firstOf_8 rfl (lv_at hl 2 rfl) ?_
      refine lv_aload_n hx hb dX0_firstOf_9 rfl (lv_at hl 1 rfl) ?_
      refine lv_iload_n hx hb dX0_firstOf_10 rfl (lv_at hl 0 rfl) ?_
      refine va_ti (v := .int (cf_vo i)) hx hb hZ.2.2.2.2 hS (vp_in_nI hi (by omega)) (congrArg (fun j => Value.int (cf_vo j)) (nI_clamp (by omega))) dX0_firstOf_11 ?_
      refine lv_iushr (v := cf_ush x (cf_vo i)) hx hb dX0_firstOf_12 rfl ?_
      refine lv_iconst (v := 1) hx hb dX0_firstOf_13 (by decide) ?_
      refine lv_iand hx hb dX0_firstOf_14 ?_
      refine lv_if_eq (tgt := 22) hx hb dX0_firstOf_15 (by decide) (fun c_2 => ?_) (fun c_2 => ?_)
      · skip
        refine lv_iinc (v := nI (i + 1)) (lv' := [(2, .int (nI (i + 1))), (0, .ref (z 3)), (1, .int x)]) hx hb dX0_firstOf_22 hl (k := 0) rfl (nI_1 i) (by decide) rfl (fun ls hl => ?_)
        refine lv_goto (tgt := 2) hx hb dX0_firstOf_25 (by decide) ?_
        exact ih ls ⟨lv_sub hl [0, 1, 2] rfl, by rw [hq, cf_fst, if_pos c_2]⟩
      · skip
        refine lv_aload_n hx hb dX0_firstOf_18 rfl (lv_at hl 1 rfl) ?_
        refine lv_iload_n hx hb dX0_firstOf_19 rfl (lv_at hl 0 rfl) ?_
        refine va_ti (v := .int (cf_vo i)) hx hb hZ.2.2.2.2 hS (vp_in_nI hi (by omega)) (congrArg (fun j => Value.int (cf_vo j)) (nI_clamp (by omega))) dX0_firstOf_20 ?_
        exact cf_roEnd hx hb hr hlocks (by rw [hq, cf_fst, if_neg c_2]) dX0_firstOf_21
  · intro ls hI
    obtain ⟨hl, hq⟩ := hI
    refine lv_iload_n hx hb dX0_firstOf_2 rfl (lv_at hl 0 rfl) ?_
    refine lv_aload_n hx hb dX0_firstOf_3 rfl (lv_at hl 1 rfl) ?_
    refine va_tlen (v := 3) hx hb hZ.2.2.2.2 hS rfl dX0_firstOf_4 ?_
    refine lv_icmp_ge (tgt := 28) hx hb dX0_firstOf_5 (by decide) (fun c_3 => ?_) (fun c_3 => ?_)
    · skip
      refine lv_iconst (v := -1) hx hb dX0_firstOf_28 (by decide) ?_
      exact cf_roEnd hx hb hr hlocks (by rw [hq]; rfl) dX0_firstOf_29
    · skip
      exact absurd (show (3 : Int32) ≤ nI 3 by decide) c_3
set_option maxHeartbeats 4000000 in
set_option maxRecDepth 100000 in
theorem c_isTrapped (l : Launch) (D : va_G) (z : Nat → Nat) (h0 h1 : Nat) (cA : ClassId) (k : Nat → Int32) (md : Int32) (tm al : Int64) (ln od : Int32) (x : Int32) : Met l yX0_isTrapped wsX0_isTrapped ({ frames := 0, cells := 0, slots := 0, locals := 0 } : Room) (cf_ro [.ref h0, .int x] D (cf_W 0 h0 h1 cA k md tm al ln od) [(cA, .int)] z) (vp_Si (fun r => r = cf_trap k x)) 0 0 (fun _ => False) := by
  refine Met.ofW (cc := cX0_isTrapped) (maxL := 2) (ret := (some .boolean)) (by decide) rfl ?_
  intro p e s m args below meth c s₁ B hml hv
  obtain ⟨rfl, hP, hK, hZ⟩ := hv
  have hx := B.exec
  have hb := B.bytes
  have hr := B.returns
  have hts := atoms_spec (ws := wsX0_isTrapped) B.pre
  have hown : s.vm.findClass RX0 = some m.cls := findClass_of_methodNamed B.named
  have hlocks := B.notSynchronized
  have hin0 : ∀ w ∈ wsX00, w ∈ wsX0_isTrapped := by decide +kernel
  have hS : va_S (fun _ => False) s.heap s.heap [] := va_S.rf
  have hl := lv_entry ([.ref h0, .int x]) (n := 2) (Nat.le_of_ble_eq_true rfl)
  rw [lg_entry_eq]
  generalize (lg_sl ([.ref h0, .int x]) ++ List.replicate (2 - (lg_sl ([.ref h0, .int x])).length) Slot.unset).toArray = ls at hl ⊢
  have hl : lv_has ls 2 [(0, .ref h0), (1, .int x)] := hl
  refine lv_iload_n hx hb dX0_isTrapped_0 rfl (lv_at hl 1 rfl) ?_
  refine lv_bipush (v := 8) hx hb dX0_isTrapped_1 (by decide) ?_
  refine lv_icmp_ne (tgt := 23) hx hb dX0_isTrapped_3 (by decide) (fun c_1 => ?_) (fun c_1 => ?_)
  · skip
    refine lv_iconst (v := 0) hx hb dX0_isTrapped_23 (by decide) ?_
    exact cf_roEndZ hx hb hr hlocks rfl (by simp only [cf_trap, if_neg c_1, if_neg cf_n10, if_pos cf_p00, ↓reduceIte]) dX0_isTrapped_24
  · skip
    refine lv_aload_n hx hb dX0_isTrapped_6 rfl (lv_at hl 0 rfl) ?_
    refine va_get (D := D) (ci := 0) (v := .ref h1) (C := RX0) (T := TX0) (N := 6) hx hb hts hin0 hown hK hP 0 rfl rfl 0 (by decide) (hts (.fieldLink RX0 9 "ControlFile" "kept" "[I") (by decide +kernel)) (fun _ h9 => h9) rfl dX0_isTrapped_7 ?_
    refine lv_bipush (v := 18) hx hb dX0_isTrapped_10 (by decide) ?_
    refine cf_ld 18 hx hb hK hP 1 0 rfl rfl rfl (by decide) dX0_isTrapped_12 ?_
    refine lv_ldc (own := RX0) (v := 1048576) hx hb hown (hts (.constant RX0 83 1048576) (by decide +kernel)) dX0_isTrapped_13 ?_
    refine lv_iand hx hb dX0_isTrapped_15 ?_
    refine lv_if_eq (tgt := 23) hx hb dX0_isTrapped_16 (by decide) (fun c_2 => ?_) (fun c_2 => ?_)
    · skip
      refine lv_iconst (v := 0) hx hb dX0_isTrapped_23 (by decide) ?_
      exact cf_roEndZ hx hb hr hlocks rfl (by simp only [cf_trap, if_pos c_1, if_pos c_2, if_neg cf_n10, if_pos cf_p00, ↓reduceIte]) dX0_isTrapped_24
    · skip
      refine lv_iconst (v := 1) hx hb dX0_isTrapped_19 (by decide) ?_
      refine lv_goto (tgt := 24) hx hb dX0_isTrapped_20 (by decide) ?_
      exact cf_roEndZ hx hb hr hlocks rfl (by simp only [cf_trap, if_pos c_1, if_neg c_2, if_neg cf_n10, if_pos cf_p00, ↓reduceIte]) dX0_isTrapped_24
set_option maxHeartbeats 4000000 in
set_option maxRecDepth 100000 in
theorem c_permission (l : Launch) (D : va_G) (z : Nat → Nat) (h0 h1 : Nat) (cA : ClassId) (k : Nat → Int32) (md : Int32) (tm al : Int64) (ln od : Int32) (x : Int32) (w : Int32) : Met l yX0_permission wsX0_permission ({ frames := 1, cells := 0, slots := 0, locals := 21 } : Room) (cf_ro [.ref h0, .int x, .int w] D (cf_W 0 h0 h1 cA k md tm al ln od) [(cA, .int)] z) (vp_Si (fun r => r = cf_perm k md x w)) 0 0 (fun _ => False) := by
  refine Met.ofW (cc := cX0_permission) (maxL := 3) (ret := (some .int)) (by decide) rfl ?_
  intro p e s m args below meth c s₁ B hml hv
  obtain ⟨rfl, hP, hK, hZ⟩ := hv
  have hx := B.exec
  have hb := B.bytes
  have hr := B.returns
  have hts := atoms_spec (ws := wsX0_permission) B.pre
  have hown : s.vm.findClass RX0 = some m.cls := findClass_of_methodNamed B.named
  have hlocks := B.notSynchronized
  have hin0 : ∀ w ∈ wsX00, w ∈ wsX0_permission := by decide +kernel
  have hS : va_S (fun _ => False) s.heap s.heap [] := va_S.rf
  have hl := lv_entry ([.ref h0, .int x, .int w]) (n := 3) (Nat.le_of_ble_eq_true rfl)
  rw [lg_entry_eq]
  generalize (lg_sl ([.ref h0, .int x, .int w]) ++ List.replicate (3 - (lg_sl ([.ref h0, .int x, .int w])).length) Slot.unset).toArray = ls at hl ⊢
  have hl : lv_has ls 3 [(0, .ref h0), (1, .int x), (2, .int w)] := hl
  refine lv_iload_n hx hb dX0_permission_0 rfl (lv_at hl 1 rfl) ?_
  refine lv_iconst (v := -1) hx hb dX0_permission_1 (by decide) ?_
  refine lv_icmp_eq (tgt := 16) hx hb dX0_permission_2 (by decide) (fun c_1 => ?_) (fun c_1 => ?_)
  · skip
    refine lv_iconst (v := 2) hx hb dX0_permission_16 (by decide) ?_
    exact cf_roEnd hx hb hr hlocks (by simp only [cf_perm, cf_perm2, if_pos c_1, if_neg cf_n10, if_pos cf_p00, ↓reduceIte]) dX0_permission_17
  · skip
    refine lv_iload_n hx hb dX0_permission_5 rfl (lv_at hl 2 rfl) ?_
    refine lv_if_eq (tgt := 18) hx hb dX0_permission_6 (by decide) (fun c_2 => ?_) (fun c_2 => ?_)
    · skip
      refine lv_aload_n hx hb dX0_permission_18 rfl (lv_at hl 0 rfl) ?_
      refine va_get (D := D) (ci := 0) (v := .int md) (C := RX0) (T := TX0) (N := 6) hx hb hts hin0 hown hK hP 0 rfl rfl 1 (by decide) (hts (.fieldLink RX0 16 "ControlFile" "modeNow" "I") (by decide +kernel)) (fun _ h9 => h9) rfl dX0_permission_19 ?_
      refine lv_iconst (v := 1) hx hb dX0_permission_22 (by decide) ?_
      refine lv_icmp_eq (tgt := 33) hx hb dX0_permission_23 (by decide) (fun c_3 => ?_) (fun c_3 => ?_)
      · skip
        refine lv_iconst (v := 0) hx hb dX0_permission_33 (by decide) ?_
        exact cf_roEnd hx hb hr hlocks (by simp only [cf_perm, cf_perm2, if_neg c_1, if_pos c_2, if_pos c_3, if_neg cf_n10, if_pos cf_p00, ↓reduceIte]) dX0_permission_34
      · skip
        refine lv_iload_n hx hb dX0_permission_26 rfl (lv_at hl 1 rfl) ?_
        refine cf_callS (As := [.int x]) (rest := []) ⟨hx, hb, hml, hown, hts⟩ (c_isOfTime l D z x) (va_cwS 1 hts gX0_permission_X0_isOfTime rfl rfl rfl (by decide +kernel) ⟨Nat.le_of_ble_eq_true rfl, Nat.le_of_ble_eq_true rfl⟩) (hP.sub (ws' := []) [] rfl) (hK.sub (tys' := []) [] rfl) hZ hS rfl hl.1 rfl (Nat.le_of_ble_eq_true rfl) dX0_permission_27 ⟨Nat.zero_le _, Nat.zero_le _⟩ ?_
        refine lv_if_eq (tgt := 35) hx hb dX0_permission_30 (by decide) (fun c_4 => ?_) (fun c_4 => ?_)
        · skip
          refine lv_aload_n hx hb dX0_permission_35 rfl (lv_at hl 0 rfl) ?_
          refine va_get (D := D) (ci := 0) (v := .int md) (C := RX0) (T := TX0) (N := 6) hx hb hts hin0 hown hK hP 0 rfl rfl 1 (by decide) (hts (.fieldLink RX0 16 "ControlFile" "modeNow" "I") (by decide +kernel)) (fun _ h9 => h9) rfl dX0_permission_36 ?_
          refine lv_if_ne (tgt := 44) hx hb dX0_permission_39 (by decide) (fun c_5 => ?_) (fun c_5 => ?_)
          · skip
            refine lv_aload_n hx hb dX0_permission_44 rfl (lv_at hl 0 rfl) ?_
            refine va_get (D := D) (ci := 0) (v := .int md) (C := RX0) (T := TX0) (N := 6) hx hb hts hin0 hown hK hP 0 rfl rfl 1 (by decide) (hts (.fieldLink RX0 16 "ControlFile" "modeNow" "I") (by decide +kernel)) (fun _ h9 => h9) rfl dX0_permission_45 ?_
            refine lv_iconst (v := 3) hx hb dX0_permission_48 (by decide) ?_
            refine lv_icmp_ne (tgt := 71) hx hb dX0_permission_49 (by decide) (fun c_6 => ?_) (fun c_6 => ?_)
            · skip
              refine lv_bipush (v := 22) hx hb dX0_permission_71 (by decide) ?_
              exact cf_roEnd hx hb hr hlocks (by simp only [cf_perm, cf_perm2, if_neg c_1, if_pos c_2, if_neg c_3, if_pos c_4, if_neg c_5, if_neg c_6, if_neg cf_n10, if_pos cf_p00, ↓reduceIte]) dX0_permission_73
            · skip
              refine lv_iload_n hx hb dX0_permission_52 rfl (lv_at hl 1 rfl) ?_
              refine cf_callS (As := [.int x]) (rest := []) ⟨hx, hb, hml, hown, hts⟩ (c_isOfS l D z x) (va_cwS 1 hts gX0_permission_X0_isOfS rfl rfl rfl (by decide +kernel) ⟨Nat.le_of_ble_eq_true rfl, Nat.le_of_ble_eq_true rfl⟩) (hP.sub (ws' := []) [] rfl) (hK.sub (tys' := []) [] rfl) hZ hS rfl hl.1 rfl (Nat.le_of_ble_eq_true rfl) dX0_permission_53 ⟨Nat.zero_le _, Nat.zero_le _⟩ ?_
              refine lv_if_eq (tgt := 71) hx hb dX0_permission_56 (by decide) (fun c_7 => ?_) (fun c_7 => ?_)
              · skip
                refine lv_bipush (v := 22) hx hb dX0_permission_71 (by decide) ?_
                exact cf_roEnd hx hb hr hlocks (by simp only [cf_perm, cf_perm2, if_neg c_1, if_pos c_2, if_neg c_3, if_pos c_4, if_neg c_5, if_pos c_6, if_pos c_7, if_neg cf_n10, if_pos cf_p00, ↓reduceIte]) dX0_permission_73
              · skip
                refine lv_aload_n hx hb dX0_permission_59 rfl (lv_at hl 0 rfl) ?_
                refine lv_iload_n hx hb dX0_permission_60 rfl (lv_at hl 1 rfl) ?_
                refine cf_callV (As := [.int x]) (rest := []) ⟨hx, hb, hml, hown, hts⟩ (c_isTrapped l D z h0 h1 cA k md tm al ln od x) (cwV 1 hts gX0_permission_X0_isTrapped rfl rfl rfl (by decide +kernel) ⟨Nat.le_of_ble_eq_true rfl, Nat.le_of_ble_eq_true rfl⟩) hP hK hZ hS (ci := 0) (q0 := 0) rfl rfl rfl rfl hl.1 rfl (Nat.le_of_ble_eq_true rfl) dX0_permission_61 ⟨Nat.zero_le _, Nat.zero_le _⟩ ?_
                refine lv_if_ne (tgt := 71) hx hb dX0_permission_64 (by decide) (fun c_8 => ?_) (fun c_8 => ?_)
                · skip
                  refine lv_bipush (v := 22) hx hb dX0_permission_71 (by decide) ?_
                  exact cf_roEnd hx hb hr hlocks (by simp only [cf_perm, cf_perm2, if_neg c_1, if_pos c_2, if_neg c_3, if_pos c_4, if_neg c_5, if_pos c_6, if_neg c_7, if_neg c_8, if_neg cf_n10, if_pos cf_p00, ↓reduceIte]) dX0_permission_73
                · skip
                  refine lv_iconst (v := 0) hx hb dX0_permission_67 (by decide) ?_
                  refine lv_goto (tgt := 73) hx hb dX0_permission_68 (by decide) ?_
                  exact cf_roEnd hx hb hr hlocks (by simp only [cf_perm, cf_perm2, if_neg c_1, if_pos c_2, if_neg c_3, if_pos c_4, if_neg c_5, if_pos c_6, if_neg c_7, if_pos c_8, if_neg cf_n10, if_pos cf_p00, ↓reduceIte]) dX0_permission_73
          · skip
            refine lv_iconst (v := 2) hx hb dX0_permission_42 (by decide) ?_
            exact cf_roEnd hx hb hr hlocks (by simp only [cf_perm, cf_perm2, if_neg c_1, if_pos c_2, if_neg c_3, if_pos c_4, if_pos c_5, if_neg cf_n10, if_pos cf_p00, ↓reduceIte]) dX0_permission_43
        · skip
          refine lv_iconst (v := 0) hx hb dX0_permission_33 (by decide) ?_
          exact cf_roEnd hx hb hr hlocks (by simp only [cf_perm, cf_perm2, if_neg c_1, if_pos c_2, if_neg c_3, if_neg c_4, if_neg cf_n10, if_pos cf_p00, ↓reduceIte]) dX0_permission_34
    · skip
      refine lv_iload_n hx hb dX0_permission_9 rfl (lv_at hl 1 rfl) ?_
      refine cf_callS (As := [.int x]) (rest := []) ⟨hx, hb, hml, hown, hts⟩ (c_isOfTime l D z x) (va_cwS 1 hts gX0_permission_X0_isOfTime rfl rfl rfl (by decide +kernel) ⟨Nat.le_of_ble_eq_true rfl, Nat.le_of_ble_eq_true rfl⟩) (hP.sub (ws' := []) [] rfl) (hK.sub (tys' := []) [] rfl) hZ hS rfl hl.1 rfl (Nat.le_of_ble_eq_true rfl) dX0_permission_10 ⟨Nat.zero_le _, Nat.zero_le _⟩ ?_
      refine lv_if_eq (tgt := 18) hx hb dX0_permission_13 (by decide) (fun c_9 => ?_) (fun c_9 => ?_)
      · skip
        refine lv_aload_n hx hb dX0_permission_18 rfl (lv_at hl 0 rfl) ?_
        refine va_get (D := D) (ci := 0) (v := .int md) (C := RX0) (T := TX0) (N := 6) hx hb hts hin0 hown hK hP 0 rfl rfl 1 (by decide) (hts (.fieldLink RX0 16 "ControlFile" "modeNow" "I") (by decide +kernel)) (fun _ h9 => h9) rfl dX0_permission_19 ?_
        refine lv_iconst (v := 1) hx hb dX0_permission_22 (by decide) ?_
        refine lv_icmp_eq (tgt := 33) hx hb dX0_permission_23 (by decide) (fun c_10 => ?_) (fun c_10 => ?_)
        · skip
          refine lv_iconst (v := 0) hx hb dX0_permission_33 (by decide) ?_
          exact cf_roEnd hx hb hr hlocks (by simp only [cf_perm, cf_perm2, if_neg c_1, if_neg c_2, if_pos c_9, if_pos c_10, if_neg cf_n10, if_pos cf_p00, ↓reduceIte]) dX0_permission_34
        · skip
          refine lv_iload_n hx hb dX0_permission_26 rfl (lv_at hl 1 rfl) ?_
          refine cf_callS (As := [.int x]) (rest := []) ⟨hx, hb, hml, hown, hts⟩ (c_isOfTime l D z x) (va_cwS 1 hts gX0_permission_X0_isOfTime rfl rfl rfl (by decide +kernel) ⟨Nat.le_of_ble_eq_true rfl, Nat.le_of_ble_eq_true rfl⟩) (hP.sub (ws' := []) [] rfl) (hK.sub (tys' := []) [] rfl) hZ hS rfl hl.1 rfl (Nat.le_of_ble_eq_true rfl) dX0_permission_27 ⟨Nat.zero_le _, Nat.zero_le _⟩ ?_
          refine lv_if_eq (tgt := 35) hx hb dX0_permission_30 (by decide) (fun c_11 => ?_) (fun c_11 => ?_)
          · skip
            refine lv_aload_n hx hb dX0_permission_35 rfl (lv_at hl 0 rfl) ?_
            refine va_get (D := D) (ci := 0) (v := .int md) (C := RX0) (T := TX0) (N := 6) hx hb hts hin0 hown hK hP 0 rfl rfl 1 (by decide) (hts (.fieldLink RX0 16 "ControlFile" "modeNow" "I") (by decide +kernel)) (fun _ h9 => h9) rfl dX0_permission_36 ?_
            refine lv_if_ne (tgt := 44) hx hb dX0_permission_39 (by decide) (fun c_12 => ?_) (fun c_12 => ?_)
            · skip
              refine lv_aload_n hx hb dX0_permission_44 rfl (lv_at hl 0 rfl) ?_
              refine va_get (D := D) (ci := 0) (v := .int md) (C := RX0) (T := TX0) (N := 6) hx hb hts hin0 hown hK hP 0 rfl rfl 1 (by decide) (hts (.fieldLink RX0 16 "ControlFile" "modeNow" "I") (by decide +kernel)) (fun _ h9 => h9) rfl dX0_permission_45 ?_
              refine lv_iconst (v := 3) hx hb dX0_permission_48 (by decide) ?_
              refine lv_icmp_ne (tgt := 71) hx hb dX0_permission_49 (by decide) (fun c_13 => ?_) (fun c_13 => ?_)
              · skip
                refine lv_bipush (v := 22) hx hb dX0_permission_71 (by decide) ?_
                exact cf_roEnd hx hb hr hlocks (by simp only [cf_perm, cf_perm2, if_neg c_1, if_neg c_2, if_pos c_9, if_neg c_10, if_pos c_11, if_neg c_12, if_neg c_13, if_neg cf_n10, if_pos cf_p00, ↓reduceIte]) dX0_permission_73
              · skip
                refine lv_iload_n hx hb dX0_permission_52 rfl (lv_at hl 1 rfl) ?_
                refine cf_callS (As := [.int x]) (rest := []) ⟨hx, hb, hml, hown, hts⟩ (c_isOfS l D z x) (va_cwS 1 hts gX0_permission_X0_isOfS rfl rfl rfl (by decide +kernel) ⟨Nat.le_of_ble_eq_true rfl, Nat.le_of_ble_eq_true rfl⟩) (hP.sub (ws' := []) [] rfl) (hK.sub (tys' := []) [] rfl) hZ hS rfl hl.1 rfl (Nat.le_of_ble_eq_true rfl) dX0_permission_53 ⟨Nat.zero_le _, Nat.zero_le _⟩ ?_
                refine lv_if_eq (tgt := 71) hx hb dX0_permission_56 (by decide) (fun c_14 => ?_) (fun c_14 => ?_)
                · skip
                  refine lv_bipush (v := 22) hx hb dX0_permission_71 (by decide) ?_
                  exact cf_roEnd hx hb hr hlocks (by simp only [cf_perm, cf_perm2, if_neg c_1, if_neg c_2, if_pos c_9, if_neg c_10, if_pos c_11, if_neg c_12, if_pos c_13, if_pos c_14, if_neg cf_n10, if_pos cf_p00, ↓reduceIte]) dX0_permission_73
                · skip
                  refine lv_aload_n hx hb dX0_permission_59 rfl (lv_at hl 0 rfl) ?_
                  refine lv_iload_n hx hb dX0_permission_60 rfl (lv_at hl 1 rfl) ?_
                  refine cf_callV (As := [.int x]) (rest := []) ⟨hx, hb, hml, hown, hts⟩ (c_isTrapped l D z h0 h1 cA k md tm al ln od x) (cwV 1 hts gX0_permission_X0_isTrapped rfl rfl rfl (by decide +kernel) ⟨Nat.le_of_ble_eq_true rfl, Nat.le_of_ble_eq_true rfl⟩) hP hK hZ hS (ci := 0) (q0 := 0) rfl rfl rfl rfl hl.1 rfl (Nat.le_of_ble_eq_true rfl) dX0_permission_61 ⟨Nat.zero_le _, Nat.zero_le _⟩ ?_
                  refine lv_if_ne (tgt := 71) hx hb dX0_permission_64 (by decide) (fun c_15 => ?_) (fun c_15 => ?_)
                  · skip
                    refine lv_bipush (v := 22) hx hb dX0_permission_71 (by decide) ?_
                    exact cf_roEnd hx hb hr hlocks (by simp only [cf_perm, cf_perm2, if_neg c_1, if_neg c_2, if_pos c_9, if_neg c_10, if_pos c_11, if_neg c_12, if_pos c_13, if_neg c_14, if_neg c_15, if_neg cf_n10, if_pos cf_p00, ↓reduceIte]) dX0_permission_73
                  · skip
                    refine lv_iconst (v := 0) hx hb dX0_permission_67 (by decide) ?_
                    refine lv_goto (tgt := 73) hx hb dX0_permission_68 (by decide) ?_
                    exact cf_roEnd hx hb hr hlocks (by simp only [cf_perm, cf_perm2, if_neg c_1, if_neg c_2, if_pos c_9, if_neg c_10, if_pos c_11, if_neg c_12, if_pos c_13, if_neg c_14, if_pos c_15, if_neg cf_n10, if_pos cf_p00, ↓reduceIte]) dX0_permission_73
            · skip
              refine lv_iconst (v := 2) hx hb dX0_permission_42 (by decide) ?_
              exact cf_roEnd hx hb hr hlocks (by simp only [cf_perm, cf_perm2, if_neg c_1, if_neg c_2, if_pos c_9, if_neg c_10, if_pos c_11, if_pos c_12, if_neg cf_n10, if_pos cf_p00, ↓reduceIte]) dX0_permission_43
          · skip
            exact absurd c_9 c_11
      · skip
        refine lv_iconst (v := 2) hx hb dX0_permission_16 (by decide) ?_
        exact cf_roEnd hx hb hr hlocks (by simp only [cf_perm, cf_perm2, if_neg c_1, if_neg c_2, if_neg c_9, if_neg cf_n10, if_pos cf_p00, ↓reduceIte]) dX0_permission_17
set_option maxHeartbeats 4000000 in
set_option maxRecDepth 100000 in
theorem c_pendingForS (l : Launch) (D : va_G) (z : Nat → Nat) (h0 h1 : Nat) (cA : ClassId) (k : Nat → Int32) (md : Int32) (tm al : Int64) (ln od : Int32) : Met l yX0_pendingForS wsX0_pendingForS ({ frames := 0, cells := 0, slots := 0, locals := 0 } : Room) (cf_ro [.ref h0] D (cf_W 0 h0 h1 cA k md tm al ln od) [(cA, .int)] z) (vp_Si (fun r => r = cf_pend k tm al ln)) 0 0 (fun _ => False) := by
  refine Met.ofW (cc := cX0_pendingForS) (maxL := 2) (ret := (some .int)) (by decide) rfl ?_
  intro p e s m args below meth c s₁ B hml hv
  obtain ⟨rfl, hP, hK, hZ⟩ := hv
  have hx := B.exec
  have hb := B.bytes
  have hr := B.returns
  have hts := atoms_spec (ws := wsX0_pendingForS) B.pre
  have hown : s.vm.findClass RX0 = some m.cls := findClass_of_methodNamed B.named
  have hlocks := B.notSynchronized
  have hin0 : ∀ w ∈ wsX00, w ∈ wsX0_pendingForS := by decide +kernel
  have hS : va_S (fun _ => False) s.heap s.heap [] := va_S.rf
  have hl := lv_entry ([.ref h0]) (n := 2) (Nat.le_of_ble_eq_true rfl)
  rw [lg_entry_eq]
  generalize (lg_sl ([.ref h0]) ++ List.replicate (2 - (lg_sl ([.ref h0])).length) Slot.unset).toArray = ls at hl ⊢
  have hl : lv_has ls 2 [(0, .ref h0)] := hl
  refine lv_aload_n hx hb dX0_pendingForS_0 rfl (lv_at hl 0 rfl) ?_
  refine va_get (D := D) (ci := 0) (v := .ref h1) (C := RX0) (T := TX0) (N := 6) hx hb hts hin0 hown hK hP 0 rfl rfl 0 (by decide) (hts (.fieldLink RX0 9 "ControlFile" "kept" "[I") (by decide +kernel)) (fun _ h9 => h9) rfl dX0_pendingForS_1 ?_
  refine lv_bipush (v := 7) hx hb dX0_pendingForS_4 (by decide) ?_
  refine cf_ld 7 hx hb hK hP 1 0 rfl rfl rfl (by decide) dX0_pendingForS_6 ?_
  refine lv_istore_n (lv' := [(1, .int (k 7)), (0, .ref h0)]) hx hb dX0_pendingForS_7 rfl hl (by decide) rfl (fun ls hl => ?_)
  refine lv_aload_n hx hb dX0_pendingForS_8 rfl (lv_at hl 1 rfl) ?_
  refine va_get (D := D) (ci := 0) (v := .long tm) (C := RX0) (T := TX0) (N := 6) hx hb hts hin0 hown hK hP 0 rfl rfl 2 (by decide) (hts (.fieldLink RX0 22 "ControlFile" "timeNow" "J") (by decide +kernel)) (fun _ h9 => h9) rfl dX0_pendingForS_9 ?_
  refine lv_aload_n hx hb dX0_pendingForS_12 rfl (lv_at hl 1 rfl) ?_
  refine va_get (D := D) (ci := 0) (v := .long al) (C := RX0) (T := TX0) (N := 6) hx hb hts hin0 hown hK hP 0 rfl rfl 3 (by decide) (hts (.fieldLink RX0 26 "ControlFile" "alarmAt" "J") (by decide +kernel)) (fun _ h9 => h9) rfl dX0_pendingForS_13 ?_
  refine W.lcmp hx hb dX0_pendingForS_16 ?_
  refine lv_if_lt (tgt := 25) hx hb dX0_pendingForS_17 (by decide) (fun c_1 => ?_) (fun c_1 => ?_)
  · skip
    refine lv_aload_n hx hb dX0_pendingForS_25 rfl (lv_at hl 1 rfl) ?_
    refine va_get (D := D) (ci := 0) (v := .int ln) (C := RX0) (T := TX0) (N := 6) hx hb hts hin0 hown hK hP 0 rfl rfl 4 (by decide) (hts (.fieldLink RX0 31 "ControlFile" "lineOn" "Z") (by decide +kernel)) (fun _ h9 => h9) rfl dX0_pendingForS_26 ?_
    refine lv_if_eq (tgt := 38) hx hb dX0_pendingForS_29 (by decide) (fun c_2 => ?_) (fun c_2 => ?_)
    · skip
      refine lv_iload_n hx hb dX0_pendingForS_38 rfl (lv_at hl 0 rfl) ?_
      exact cf_roEnd hx hb hr hlocks (by simp only [cf_pend, if_pos c_1, if_pos c_2, if_neg cf_n10, if_pos cf_p00, ↓reduceIte]) dX0_pendingForS_39
    · skip
      refine lv_iload_n hx hb dX0_pendingForS_32 rfl (lv_at hl 0 rfl) ?_
      refine lv_sipush (v := 512) hx hb dX0_pendingForS_33 (by decide) ?_
      refine lv_ior hx hb dX0_pendingForS_36 ?_
      refine lv_istore_n (lv' := [(1, .int ((k 7) ||| 512)), (0, .ref h0)]) hx hb dX0_pendingForS_37 rfl hl (by decide) rfl (fun ls hl => ?_)
      refine lv_iload_n hx hb dX0_pendingForS_38 rfl (lv_at hl 0 rfl) ?_
      exact cf_roEnd hx hb hr hlocks (by simp only [cf_pend, if_pos c_1, if_neg c_2, if_neg cf_n10, if_pos cf_p00, ↓reduceIte]) dX0_pendingForS_39
  · skip
    refine lv_iload_n hx hb dX0_pendingForS_20 rfl (lv_at hl 0 rfl) ?_
    refine lv_bipush (v := 32) hx hb dX0_pendingForS_21 (by decide) ?_
    refine lv_ior hx hb dX0_pendingForS_23 ?_
    refine lv_istore_n (lv' := [(1, .int ((k 7) ||| 32)), (0, .ref h0)]) hx hb dX0_pendingForS_24 rfl hl (by decide) rfl (fun ls hl => ?_)
    refine lv_aload_n hx hb dX0_pendingForS_25 rfl (lv_at hl 1 rfl) ?_
    refine va_get (D := D) (ci := 0) (v := .int ln) (C := RX0) (T := TX0) (N := 6) hx hb hts hin0 hown hK hP 0 rfl rfl 4 (by decide) (hts (.fieldLink RX0 31 "ControlFile" "lineOn" "Z") (by decide +kernel)) (fun _ h9 => h9) rfl dX0_pendingForS_26 ?_
    refine lv_if_eq (tgt := 38) hx hb dX0_pendingForS_29 (by decide) (fun c_3 => ?_) (fun c_3 => ?_)
    · skip
      refine lv_iload_n hx hb dX0_pendingForS_38 rfl (lv_at hl 0 rfl) ?_
      exact cf_roEnd hx hb hr hlocks (by simp only [cf_pend, if_neg c_1, if_pos c_3, if_neg cf_n10, if_pos cf_p00, ↓reduceIte]) dX0_pendingForS_39
    · skip
      refine lv_iload_n hx hb dX0_pendingForS_32 rfl (lv_at hl 0 rfl) ?_
      refine lv_sipush (v := 512) hx hb dX0_pendingForS_33 (by decide) ?_
      refine lv_ior hx hb dX0_pendingForS_36 ?_
      refine lv_istore_n (lv' := [(1, .int (((k 7) ||| 32) ||| 512)), (0, .ref h0)]) hx hb dX0_pendingForS_37 rfl hl (by decide) rfl (fun ls hl => ?_)
      refine lv_iload_n hx hb dX0_pendingForS_38 rfl (lv_at hl 0 rfl) ?_
      exact cf_roEnd hx hb hr hlocks (by simp only [cf_pend, if_neg c_1, if_neg c_3, if_neg cf_n10, if_pos cf_p00, ↓reduceIte]) dX0_pendingForS_39
set_option maxHeartbeats 4000000 in
set_option maxRecDepth 100000 in
theorem c_told (l : Launch) (D : va_G) (z : Nat → Nat) (h0 h1 : Nat) (cA : ClassId) (k : Nat → Int32) (md : Int32) (tm al : Int64) (ln od : Int32) (x : Int32) : Met l yX0_told wsX0_told ({ frames := 1, cells := 0, slots := 0, locals := 21 } : Room) (cf_ro [.ref h0, .int x] D (cf_W 0 h0 h1 cA k md tm al ln od) [(cA, .int)] z) (vp_Si (fun r => r = cf_told k tm al ln x)) 0 0 (fun _ => False) := by
  refine Met.ofW (cc := cX0_told) (maxL := 2) (ret := (some .int)) (by decide) rfl ?_
  intro p e s m args below meth c s₁ B hml hv
  obtain ⟨rfl, hP, hK, hZ⟩ := hv
  have hx := B.exec
  have hb := B.bytes
  have hr := B.returns
  have hts := atoms_spec (ws := wsX0_told) B.pre
  have hown : s.vm.findClass RX0 = some m.cls := findClass_of_methodNamed B.named
  have hlocks := B.notSynchronized
  have hin0 : ∀ w ∈ wsX00, w ∈ wsX0_told := by decide +kernel
  have hS : va_S (fun _ => False) s.heap s.heap [] := va_S.rf
  have hl := lv_entry ([.ref h0, .int x]) (n := 2) (Nat.le_of_ble_eq_true rfl)
  rw [lg_entry_eq]
  generalize (lg_sl ([.ref h0, .int x]) ++ List.replicate (2 - (lg_sl ([.ref h0, .int x])).length) Slot.unset).toArray = ls at hl ⊢
  have hl : lv_has ls 2 [(0, .ref h0), (1, .int x)] := hl
  refine lv_iload_n hx hb dX0_told_0 rfl (lv_at hl 1 rfl) ?_
  by_cases c_1 : x = 7
  · skip
    refine lv_lookup (off := 59) (tgt := 60) hx hb dX0_told_1 (by decide) (by rw [c_1]; decide) (by decide) ?_
    refine lv_aload_n hx hb dX0_told_60 rfl (lv_at hl 0 rfl) ?_
    refine cf_callV (As := []) (rest := []) ⟨hx, hb, hml, hown, hts⟩ (c_pendingForS l D z h0 h1 cA k md tm al ln od) (cwV 0 hts gX0_told_X0_pendingForS rfl rfl rfl (by decide +kernel) ⟨Nat.le_of_ble_eq_true rfl, Nat.le_of_ble_eq_true rfl⟩) hP hK hZ hS (ci := 0) (q0 := 0) rfl rfl rfl rfl hl.1 rfl (Nat.le_of_ble_eq_true rfl) dX0_told_61 ⟨Nat.zero_le _, Nat.zero_le _⟩ ?_
    exact cf_roEnd hx hb hr hlocks (by simp only [cf_told, if_pos c_1, if_neg cf_n10, if_pos cf_p00, ↓reduceIte]) dX0_told_64
  by_cases c_2 : x = 10
  · skip
    refine lv_lookup (off := 64) (tgt := 65) hx hb dX0_told_1 (by decide) (by rw [c_2]; decide) (by decide) ?_
    refine lv_aload_n hx hb dX0_told_65 rfl (lv_at hl 0 rfl) ?_
    refine va_get (D := D) (ci := 0) (v := .ref h1) (C := RX0) (T := TX0) (N := 6) hx hb hts hin0 hown hK hP 0 rfl rfl 0 (by decide) (hts (.fieldLink RX0 9 "ControlFile" "kept" "[I") (by decide +kernel)) (fun _ h9 => h9) rfl dX0_told_66 ?_
    refine lv_bipush (v := 21) hx hb dX0_told_69 (by decide) ?_
    refine cf_ld 21 hx hb hK hP 1 0 rfl rfl rfl (by decide) dX0_told_71 ?_
    refine lv_aload_n hx hb dX0_told_72 rfl (lv_at hl 0 rfl) ?_
    refine va_get (D := D) (ci := 0) (v := .ref h1) (C := RX0) (T := TX0) (N := 6) hx hb hts hin0 hown hK hP 0 rfl rfl 0 (by decide) (hts (.fieldLink RX0 9 "ControlFile" "kept" "[I") (by decide +kernel)) (fun _ h9 => h9) rfl dX0_told_73 ?_
    refine lv_bipush (v := 20) hx hb dX0_told_76 (by decide) ?_
    refine cf_ld 20 hx hb hK hP 1 0 rfl rfl rfl (by decide) dX0_told_78 ?_
    refine lv_iand hx hb dX0_told_79 ?_
    refine lv_iconst (v := 1) hx hb dX0_told_80 (by decide) ?_
    refine lv_iushr (v := cf_ush ((k 21) &&& (k 20)) 1) hx hb dX0_told_81 rfl ?_
    exact cf_roEnd hx hb hr hlocks (by simp only [cf_told, if_neg c_1, if_pos c_2, if_neg cf_n10, if_pos cf_p00, ↓reduceIte]) dX0_told_82
  by_cases c_3 : x = 16
  · skip
    refine lv_lookup (off := 82) (tgt := 83) hx hb dX0_told_1 (by decide) (by rw [c_3]; decide) (by decide) ?_
    refine lv_aload_n hx hb dX0_told_83 rfl (lv_at hl 0 rfl) ?_
    refine va_get (D := D) (ci := 0) (v := .ref h1) (C := RX0) (T := TX0) (N := 6) hx hb hts hin0 hown hK hP 0 rfl rfl 0 (by decide) (hts (.fieldLink RX0 9 "ControlFile" "kept" "[I") (by decide +kernel)) (fun _ h9 => h9) rfl dX0_told_84 ?_
    refine lv_bipush (v := 24) hx hb dX0_told_87 (by decide) ?_
    refine cf_ld 24 hx hb hK hP 1 0 rfl rfl rfl (by decide) dX0_told_89 ?_
    refine lv_aload_n hx hb dX0_told_90 rfl (lv_at hl 0 rfl) ?_
    refine va_get (D := D) (ci := 0) (v := .ref h1) (C := RX0) (T := TX0) (N := 6) hx hb hts hin0 hown hK hP 0 rfl rfl 0 (by decide) (hts (.fieldLink RX0 9 "ControlFile" "kept" "[I") (by decide +kernel)) (fun _ h9 => h9) rfl dX0_told_91 ?_
    refine lv_bipush (v := 20) hx hb dX0_told_94 (by decide) ?_
    refine cf_ld 20 hx hb hK hP 1 0 rfl rfl rfl (by decide) dX0_told_96 ?_
    refine lv_iand hx hb dX0_told_97 ?_
    refine lv_iconst (v := 1) hx hb dX0_told_98 (by decide) ?_
    refine lv_iushr (v := cf_ush ((k 24) &&& (k 20)) 1) hx hb dX0_told_99 rfl ?_
    exact cf_roEnd hx hb hr hlocks (by simp only [cf_told, if_neg c_1, if_neg c_2, if_pos c_3, if_neg cf_n10, if_pos cf_p00, ↓reduceIte]) dX0_told_100
  by_cases c_4 : x = 23
  · skip
    refine lv_lookup (off := 100) (tgt := 101) hx hb dX0_told_1 (by decide) (by rw [c_4]; decide) (by decide) ?_
    refine lv_aload_n hx hb dX0_told_101 rfl (lv_at hl 0 rfl) ?_
    refine va_get (D := D) (ci := 0) (v := .ref h1) (C := RX0) (T := TX0) (N := 6) hx hb hts hin0 hown hK hP 0 rfl rfl 0 (by decide) (hts (.fieldLink RX0 9 "ControlFile" "kept" "[I") (by decide +kernel)) (fun _ h9 => h9) rfl dX0_told_102 ?_
    refine lv_bipush (v := 24) hx hb dX0_told_105 (by decide) ?_
    refine cf_ld 24 hx hb hK hP 1 0 rfl rfl rfl (by decide) dX0_told_107 ?_
    exact cf_roEnd hx hb hr hlocks (by simp only [cf_told, if_neg c_1, if_neg c_2, if_neg c_3, if_pos c_4, if_neg cf_n10, if_pos cf_p00, ↓reduceIte]) dX0_told_108
  by_cases c_5 : x = 27
  · skip
    refine lv_lookup (off := 108) (tgt := 109) hx hb dX0_told_1 (by decide) (by rw [c_5]; decide) (by decide) ?_
    refine lv_aload_n hx hb dX0_told_109 rfl (lv_at hl 0 rfl) ?_
    refine va_get (D := D) (ci := 0) (v := .long tm) (C := RX0) (T := TX0) (N := 6) hx hb hts hin0 hown hK hP 0 rfl rfl 2 (by decide) (hts (.fieldLink RX0 22 "ControlFile" "timeNow" "J") (by decide +kernel)) (fun _ h9 => h9) rfl dX0_told_110 ?_
    refine lv_l2i (v := tm.toInt32) hx hb dX0_told_113 rfl ?_
    exact cf_roEnd hx hb hr hlocks (by simp only [cf_told, if_neg c_1, if_neg c_2, if_neg c_3, if_neg c_4, if_pos c_5, if_neg cf_n10, if_pos cf_p00, ↓reduceIte]) dX0_told_114
  by_cases c_6 : x = 28
  · skip
    refine lv_lookup (off := 114) (tgt := 115) hx hb dX0_told_1 (by decide) (by rw [c_6]; decide) (by decide) ?_
    refine lv_aload_n hx hb dX0_told_115 rfl (lv_at hl 0 rfl) ?_
    refine va_get (D := D) (ci := 0) (v := .long tm) (C := RX0) (T := TX0) (N := 6) hx hb hts hin0 hown hK hP 0 rfl rfl 2 (by decide) (hts (.fieldLink RX0 22 "ControlFile" "timeNow" "J") (by decide +kernel)) (fun _ h9 => h9) rfl dX0_told_116 ?_
    refine lv_bipush (v := 32) hx hb dX0_told_119 (by decide) ?_
    refine lv_lushr (v := cf_lush tm 32) hx hb dX0_told_121 rfl ?_
    refine lv_l2i (v := (cf_lush tm 32).toInt32) hx hb dX0_told_122 rfl ?_
    exact cf_roEnd hx hb hr hlocks (by simp only [cf_told, if_neg c_1, if_neg c_2, if_neg c_3, if_neg c_4, if_neg c_5, if_pos c_6, if_neg cf_n10, if_pos cf_p00, ↓reduceIte]) dX0_told_123
  refine lv_lookup (off := 123) (tgt := 124) hx hb dX0_told_1 (by decide) (show Op.lookupswitch.offset [(7, 59), (10, 64), (16, 82), (23, 100), (27, 108), (28, 114)] 123 (x).toInt = 123 by rw [Op.lookupswitch.offset_cons, if_neg (cf_ne (a := 7) (by decide) c_1), Op.lookupswitch.offset_cons, if_neg (cf_ne (a := 10) (by decide) c_2), Op.lookupswitch.offset_cons, if_neg (cf_ne (a := 16) (by decide) c_3), Op.lookupswitch.offset_cons, if_neg (cf_ne (a := 23) (by decide) c_4), Op.lookupswitch.offset_cons, if_neg (cf_ne (a := 27) (by decide) c_5), Op.lookupswitch.offset_cons, if_neg (cf_ne (a := 28) (by decide) c_6), Op.lookupswitch.offset_nil]) (by decide) ?_
  refine lv_iload_n hx hb dX0_told_124 rfl (lv_at hl 1 rfl) ?_
  refine lv_if_lt (tgt := 146) hx hb dX0_told_125 (by decide) (fun c_7 => ?_) (fun c_7 => ?_)
  · skip
    refine lv_iconst (v := 0) hx hb dX0_told_146 (by decide) ?_
    exact cf_roEnd hx hb hr hlocks (by simp only [cf_told, if_neg c_1, if_neg c_2, if_neg c_3, if_neg c_4, if_neg c_5, if_neg c_6, if_pos c_7, if_neg cf_n10, if_pos cf_p00, ↓reduceIte]) dX0_told_147
  · skip
    refine lv_iload_n hx hb dX0_told_128 rfl (lv_at hl 1 rfl) ?_
    refine lv_aload_n hx hb dX0_told_129 rfl (lv_at hl 0 rfl) ?_
    refine va_get (D := D) (ci := 0) (v := .ref h1) (C := RX0) (T := TX0) (N := 6) hx hb hts hin0 hown hK hP 0 rfl rfl 0 (by decide) (hts (.fieldLink RX0 9 "ControlFile" "kept" "[I") (by decide +kernel)) (fun _ h9 => h9) rfl dX0_told_130 ?_
    refine va_alen (v := 29) hx hb hK hP 1 0 rfl rfl rfl dX0_told_133 ?_
    refine lv_icmp_ge (tgt := 146) hx hb dX0_told_134 (by decide) (fun c_8 => ?_) (fun c_8 => ?_)
    · skip
      refine lv_iconst (v := 0) hx hb dX0_told_146 (by decide) ?_
      exact cf_roEnd hx hb hr hlocks (by simp only [cf_told, if_neg c_1, if_neg c_2, if_neg c_3, if_neg c_4, if_neg c_5, if_neg c_6, if_neg c_7, if_pos c_8, if_neg cf_n10, if_pos cf_p00, ↓reduceIte]) dX0_told_147
    · skip
      refine lv_aload_n hx hb dX0_told_137 rfl (lv_at hl 0 rfl) ?_
      refine va_get (D := D) (ci := 0) (v := .ref h1) (C := RX0) (T := TX0) (N := 6) hx hb hts hin0 hown hK hP 0 rfl rfl 0 (by decide) (hts (.fieldLink RX0 9 "ControlFile" "kept" "[I") (by decide +kernel)) (fun _ h9 => h9) rfl dX0_told_138 ?_
      refine lv_iload_n hx hb dX0_told_141 rfl (lv_at hl 1 rfl) ?_
      refine va_iald hx hb hK hP 1 0 rfl rfl (cf_in c_7 c_8) dX0_told_142 ?_
      refine lv_goto (tgt := 147) hx hb dX0_told_143 (by decide) ?_
      exact cf_roEnd hx hb hr hlocks (by simp only [cf_told, if_neg c_1, if_neg c_2, if_neg c_3, if_neg c_4, if_neg c_5, if_neg c_6, if_neg c_7, if_neg c_8, if_neg cf_n10, if_pos cf_p00, ↓reduceIte]) dX0_told_147
set_option maxHeartbeats 4000000 in
set_option maxRecDepth 100000 in
theorem c_old (l : Launch) (D : va_G) (z : Nat → Nat) (h0 h1 : Nat) (cA : ClassId) (k : Nat → Int32) (md : Int32) (tm al : Int64) (ln od : Int32) : Met l yX0_old wsX0_old ({ frames := 0, cells := 0, slots := 0, locals := 0 } : Room) (cf_ro [.ref h0] D (cf_W 0 h0 h1 cA k md tm al ln od) [(cA, .int)] z) (vp_Si (fun r => r = od)) 0 0 (fun _ => False) := by
  refine Met.ofW (cc := cX0_old) (maxL := 1) (ret := (some .int)) (by decide) rfl ?_
  intro p e s m args below meth c s₁ B hml hv
  obtain ⟨rfl, hP, hK, hZ⟩ := hv
  have hx := B.exec
  have hb := B.bytes
  have hr := B.returns
  have hts := atoms_spec (ws := wsX0_old) B.pre
  have hown : s.vm.findClass RX0 = some m.cls := findClass_of_methodNamed B.named
  have hlocks := B.notSynchronized
  have hin0 : ∀ w ∈ wsX00, w ∈ wsX0_old := by decide +kernel
  have hS : va_S (fun _ => False) s.heap s.heap [] := va_S.rf
  have hl := lv_entry ([.ref h0]) (n := 1) (Nat.le_of_ble_eq_true rfl)
  rw [lg_entry_eq]
  generalize (lg_sl ([.ref h0]) ++ List.replicate (1 - (lg_sl ([.ref h0])).length) Slot.unset).toArray = ls at hl ⊢
  have hl : lv_has ls 1 [(0, .ref h0)] := hl
  refine lv_aload_n hx hb dX0_old_0 rfl (lv_at hl 0 rfl) ?_
  refine va_get (D := D) (ci := 0) (v := .int od) (C := RX0) (T := TX0) (N := 6) hx hb hts hin0 hown hK hP 0 rfl rfl 5 (by decide) (hts (.fieldLink RX0 58 "ControlFile" "oldValue" "I") (by decide +kernel)) (fun _ h9 => h9) rfl dX0_old_1 ?_
  exact cf_roEnd hx hb hr hlocks (rfl) dX0_old_4
set_option maxHeartbeats 4000000 in
set_option maxRecDepth 100000 in
theorem c_control (l : Launch) (D : va_G) (z : Nat → Nat) (h0 h1 : Nat) (cA : ClassId) (k : Nat → Int32) (md : Int32) (tm al : Int64) (ln od : Int32) (n : Int32) : Met l yX0_control wsX0_control ({ frames := 2, cells := 0, slots := 0, locals := 42 } : Room) (cf_ro [.ref h0, .int n] D (cf_W 0 h0 h1 cA k md tm al ln od) [(cA, .int)] z) (vp_Si (fun r => r = cf_told k tm al ln (cf_slot n))) 0 0 (fun _ => False) := by
  refine Met.ofW (cc := cX0_control) (maxL := 2) (ret := (some .int)) (by decide) rfl ?_
  intro p e s m args below meth c s₁ B hml hv
  obtain ⟨rfl, hP, hK, hZ⟩ := hv
  have hx := B.exec
  have hb := B.bytes
  have hr := B.returns
  have hts := atoms_spec (ws := wsX0_control) B.pre
  have hown : s.vm.findClass RX0 = some m.cls := findClass_of_methodNamed B.named
  have hlocks := B.notSynchronized
  have hS : va_S (fun _ => False) s.heap s.heap [] := va_S.rf
  have hl := lv_entry ([.ref h0, .int n]) (n := 2) (Nat.le_of_ble_eq_true rfl)
  rw [lg_entry_eq]
  generalize (lg_sl ([.ref h0, .int n]) ++ List.replicate (2 - (lg_sl ([.ref h0, .int n])).length) Slot.unset).toArray = ls at hl ⊢
  have hl : lv_has ls 2 [(0, .ref h0), (1, .int n)] := hl
  refine lv_aload_n hx hb dX0_control_0 rfl (lv_at hl 0 rfl) ?_
  refine lv_iload_n hx hb dX0_control_1 rfl (lv_at hl 1 rfl) ?_
  refine cf_callS (As := [.int n]) (rest := [.ref h0]) ⟨hx, hb, hml, hown, hts⟩ (c_slotOf l D z n) (va_cwS 1 hts gX0_control_X0_slotOf rfl rfl rfl (by decide +kernel) ⟨Nat.le_of_ble_eq_true rfl, Nat.le_of_ble_eq_true rfl⟩) (hP.sub (ws' := []) [] rfl) (hK.sub (tys' := []) [] rfl) hZ hS rfl hl.1 rfl (Nat.le_of_ble_eq_true rfl) dX0_control_2 ⟨Nat.zero_le _, Nat.zero_le _⟩ ?_
  refine cf_callV (As := [.int (cf_slot n)]) (rest := []) ⟨hx, hb, hml, hown, hts⟩ (c_told l D z h0 h1 cA k md tm al ln od (cf_slot n)) (cwV 1 hts gX0_control_X0_told rfl rfl rfl (by decide +kernel) ⟨Nat.le_of_ble_eq_true rfl, Nat.le_of_ble_eq_true rfl⟩) hP hK hZ hS (ci := 0) (q0 := 0) rfl rfl rfl rfl hl.1 rfl (Nat.le_of_ble_eq_true rfl) dX0_control_5 ⟨Nat.zero_le _, Nat.zero_le _⟩ ?_
  exact cf_roEnd hx hb hr hlocks (rfl) dX0_control_8
set_option maxHeartbeats 4000000 in
set_option maxRecDepth 100000 in
theorem c_used (l : Launch) (D : va_G) (z : Nat → Nat) (h0 h1 : Nat) (cA : ClassId) (k : Nat → Int32) (md : Int32) (tm al : Int64) (ln od : Int32) : Met l yX0_used wsX0_used ({ frames := 2, cells := 0, slots := 0, locals := 42 } : Room) (cf_ro [.ref h0] D (cf_W 0 h0 h1 cA k md tm al ln od) [(cA, .int)] z) (vp_Si (fun r => r = cf_used k tm al ln)) 0 0 (fun _ => False) := by
  refine Met.ofW (cc := cX0_used) (maxL := 3) (ret := (some .int)) (by decide) rfl ?_
  intro p e s m args below meth c s₁ B hml hv
  obtain ⟨rfl, hP, hK, hZ⟩ := hv
  have hx := B.exec
  have hb := B.bytes
  have hr := B.returns
  have hts := atoms_spec (ws := wsX0_used) B.pre
  have hown : s.vm.findClass RX0 = some m.cls := findClass_of_methodNamed B.named
  have hlocks := B.notSynchronized
  have hS : va_S (fun _ => False) s.heap s.heap [] := va_S.rf
  have hl := lv_entry ([.ref h0]) (n := 3) (Nat.le_of_ble_eq_true rfl)
  rw [lg_entry_eq]
  generalize (lg_sl ([.ref h0]) ++ List.replicate (3 - (lg_sl ([.ref h0])).length) Slot.unset).toArray = ls at hl ⊢
  have hl : lv_has ls 3 [(0, .ref h0)] := hl
  refine lv_iconst (v := 0) hx hb dX0_used_0 (by decide) ?_
  refine lv_istore_n (lv' := [(1, .int 0), (0, .ref h0)]) hx hb dX0_used_1 rfl hl (by decide) rfl (fun ls hl => ?_)
  refine lv_iconst (v := 0) hx hb dX0_used_2 (by decide) ?_
  refine lv_istore_n (lv' := [(2, .int 0), (1, .int 0), (0, .ref h0)]) hx hb dX0_used_3 rfl hl (by decide) rfl (fun ls hl => ?_)
  refine cf_ind (G := W p l e _ s m _ below meth c s.heap [] 0 0 _) 29 (fun i ls => lv_has ls 3 [(2, .int (nI i)), (1, .int (cf_cnt (cf_tf k tm al ln) i)), (0, .ref h0)]) ?_ ?_ 29 0 ls rfl (by omega) hl
  · intro i ls hi hl ih
    have hl : lv_has ls 3 [(2, .int (nI i)), (1, .int (cf_cnt (cf_tf k tm al ln) i)), (0, .ref h0)] := hl
    refine lv_iload_n hx hb dX0_used_4 rfl (lv_at hl 0 rfl) ?_
    refine lv_bipush (v := 29) hx hb dX0_used_5 (by decide) ?_
    refine lv_icmp_ge (tgt := 27) hx hb dX0_used_7 (by decide) (fun c_1 => ?_) (fun c_1 => ?_)
    · skip
      exact absurd c_1 (show ¬ (29 : Int32) ≤ nI i from nI_ge hi (by decide))
    · skip
      refine lv_aload_n hx hb dX0_used_10 rfl (lv_at hl 2 rfl) ?_
      refine lv_iload_n hx hb dX0_used_11 rfl (lv_at hl 0 rfl) ?_
      refine cf_callV (As := [.int (nI i)]) (rest := []) ⟨hx, hb, hml, hown, hts⟩ (c_told l D z h0 h1 cA k md tm al ln od (nI i)) (cwV 1 hts gX0_used_X0_told rfl rfl rfl (by decide +kernel) ⟨Nat.le_of_ble_eq_true rfl, Nat.le_of_ble_eq_true rfl⟩) hP hK hZ hS (ci := 0) (q0 := 0) rfl rfl rfl rfl hl.1 rfl (Nat.le_of_ble_eq_true rfl) dX0_used_12 ⟨Nat.zero_le _, Nat.zero_le _⟩ ?_
      refine lv_if_eq (tgt := 21) hx hb dX0_used_15 (by decide) (fun c_2 => ?_) (fun c_2 => ?_)
      · skip
        refine lv_iinc (v := nI (i + 1)) (lv' := [(2, .int (nI (i + 1))), (1, .int (cf_cnt (cf_tf k tm al ln) i)), (0, .ref h0)]) hx hb dX0_used_21 hl (k := 0) rfl (nI_1 i) (by decide) rfl (fun ls hl => ?_)
        refine lv_goto (tgt := 4) hx hb dX0_used_24 (by decide) ?_
        refine ih ls ?_
        show lv_has ls 3 [(2, .int (nI (i + 1))), (1, .int (cf_cnt (cf_tf k tm al ln) (i + 1))), (0, .ref h0)]
        rw [cf_cnt, if_pos (show cf_tf k tm al ln i = 0 from c_2)]
        exact lv_sub hl [0, 1, 2] rfl
      · skip
        refine lv_iinc (v := (cf_cnt (cf_tf k tm al ln) i) + 1) (lv' := [(1, .int ((cf_cnt (cf_tf k tm al ln) i) + 1)), (2, .int (nI i)), (0, .ref h0)]) hx hb dX0_used_18 hl (k := 1) rfl rfl (by decide) rfl (fun ls hl => ?_)
        refine lv_iinc (v := nI (i + 1)) (lv' := [(2, .int (nI (i + 1))), (1, .int ((cf_cnt (cf_tf k tm al ln) i) + 1)), (0, .ref h0)]) hx hb dX0_used_21 hl (k := 1) rfl (nI_1 i) (by decide) rfl (fun ls hl => ?_)
        refine lv_goto (tgt := 4) hx hb dX0_used_24 (by decide) ?_
        refine ih ls ?_
        show lv_has ls 3 [(2, .int (nI (i + 1))), (1, .int (cf_cnt (cf_tf k tm al ln) (i + 1))), (0, .ref h0)]
        rw [cf_cnt, if_neg (show ¬ (cf_tf k tm al ln i = 0) from c_2)]
        exact lv_sub hl [0, 1, 2] rfl
  · intro ls hl
    have hl : lv_has ls 3 [(2, .int (nI 29)), (1, .int (cf_cnt (cf_tf k tm al ln) 29)), (0, .ref h0)] := hl
    refine lv_iload_n hx hb dX0_used_4 rfl (lv_at hl 0 rfl) ?_
    refine lv_bipush (v := 29) hx hb dX0_used_5 (by decide) ?_
    refine lv_icmp_ge (tgt := 27) hx hb dX0_used_7 (by decide) (fun c_3 => ?_) (fun c_3 => ?_)
    · skip
      refine lv_iload_n hx hb dX0_used_27 rfl (lv_at hl 1 rfl) ?_
      exact cf_roEnd hx hb hr hlocks rfl dX0_used_28
    · skip
      exact absurd (show (29 : Int32) ≤ nI 29 by decide) c_3
set_option maxHeartbeats 4000000 in
set_option maxRecDepth 100000 in
theorem c_dueForS (l : Launch) (D : va_G) (z : Nat → Nat) (h0 h1 : Nat) (cA : ClassId) (k : Nat → Int32) (md : Int32) (tm al : Int64) (ln od : Int32) : Met l yX0_dueForS wsX0_dueForS ({ frames := 1, cells := 0, slots := 0, locals := 22 } : Room) (cf_ro [.ref h0] D (cf_W 0 h0 h1 cA k md tm al ln od) [(cA, .int)] z) (vp_Si (fun r => r = cf_dS k md tm al ln)) 0 0 (fun _ => False) := by
  refine Met.ofW (cc := cX0_dueForS) (maxL := 3) (ret := (some .int)) (by decide) rfl ?_
  intro p e s m args below meth c s₁ B hml hv
  obtain ⟨rfl, hP, hK, hZ⟩ := hv
  have hx := B.exec
  have hb := B.bytes
  have hr := B.returns
  have hts := atoms_spec (ws := wsX0_dueForS) B.pre
  have hown : s.vm.findClass RX0 = some m.cls := findClass_of_methodNamed B.named
  have hlocks := B.notSynchronized
  have hin0 : ∀ w ∈ wsX00, w ∈ wsX0_dueForS := by decide +kernel
  have hS : va_S (fun _ => False) s.heap s.heap [] := va_S.rf
  have hl := lv_entry ([.ref h0]) (n := 3) (Nat.le_of_ble_eq_true rfl)
  rw [lg_entry_eq]
  generalize (lg_sl ([.ref h0]) ++ List.replicate (3 - (lg_sl ([.ref h0])).length) Slot.unset).toArray = ls at hl ⊢
  have hl : lv_has ls 3 [(0, .ref h0)] := hl
  refine lv_aload_n hx hb dX0_dueForS_0 rfl (lv_at hl 0 rfl) ?_
  refine va_get (D := D) (ci := 0) (v := .int md) (C := RX0) (T := TX0) (N := 6) hx hb hts hin0 hown hK hP 0 rfl rfl 1 (by decide) (hts (.fieldLink RX0 16 "ControlFile" "modeNow" "I") (by decide +kernel)) (fun _ h9 => h9) rfl dX0_dueForS_1 ?_
  refine lv_iconst (v := 1) hx hb dX0_dueForS_4 (by decide) ?_
  refine lv_icmp_ne (tgt := 21) hx hb dX0_dueForS_5 (by decide) (fun c_1 => ?_) (fun c_1 => ?_)
  · skip
    refine lv_aload_n hx hb dX0_dueForS_21 rfl (lv_at hl 0 rfl) ?_
    refine cf_callV (As := []) (rest := []) ⟨hx, hb, hml, hown, hts⟩ (c_pendingForS l D z h0 h1 cA k md tm al ln od) (cwV 0 hts gX0_dueForS_X0_pendingForS rfl rfl rfl (by decide +kernel) ⟨Nat.le_of_ble_eq_true rfl, Nat.le_of_ble_eq_true rfl⟩) hP hK hZ hS (ci := 0) (q0 := 0) rfl rfl rfl rfl hl.1 rfl (Nat.le_of_ble_eq_true rfl) dX0_dueForS_22 ⟨Nat.zero_le _, Nat.zero_le _⟩ ?_
    refine lv_aload_n hx hb dX0_dueForS_25 rfl (lv_at hl 0 rfl) ?_
    refine va_get (D := D) (ci := 0) (v := .ref h1) (C := RX0) (T := TX0) (N := 6) hx hb hts hin0 hown hK hP 0 rfl rfl 0 (by decide) (hts (.fieldLink RX0 9 "ControlFile" "kept" "[I") (by decide +kernel)) (fun _ h9 => h9) rfl dX0_dueForS_26 ?_
    refine lv_iconst (v := 1) hx hb dX0_dueForS_29 (by decide) ?_
    refine cf_ld 1 hx hb hK hP 1 0 rfl rfl rfl (by decide) dX0_dueForS_30 ?_
    refine lv_iand hx hb dX0_dueForS_31 ?_
    refine lv_istore_n (lv' := [(1, .int ((cf_pend k tm al ln) &&& (k 1))), (0, .ref h0)]) hx hb dX0_dueForS_32 rfl hl (by decide) rfl (fun ls hl => ?_)
    refine lv_aload_n hx hb dX0_dueForS_33 rfl (lv_at hl 1 rfl) ?_
    refine va_get (D := D) (ci := 0) (v := .ref h1) (C := RX0) (T := TX0) (N := 6) hx hb hts hin0 hown hK hP 0 rfl rfl 0 (by decide) (hts (.fieldLink RX0 9 "ControlFile" "kept" "[I") (by decide +kernel)) (fun _ h9 => h9) rfl dX0_dueForS_34 ?_
    refine lv_bipush (v := 24) hx hb dX0_dueForS_37 (by decide) ?_
    refine cf_ld 24 hx hb hK hP 1 0 rfl rfl rfl (by decide) dX0_dueForS_39 ?_
    refine lv_aload_n hx hb dX0_dueForS_40 rfl (lv_at hl 1 rfl) ?_
    refine va_get (D := D) (ci := 0) (v := .ref h1) (C := RX0) (T := TX0) (N := 6) hx hb hts hin0 hown hK hP 0 rfl rfl 0 (by decide) (hts (.fieldLink RX0 9 "ControlFile" "kept" "[I") (by decide +kernel)) (fun _ h9 => h9) rfl dX0_dueForS_41 ?_
    refine lv_bipush (v := 21) hx hb dX0_dueForS_44 (by decide) ?_
    refine cf_ld 21 hx hb hK hP 1 0 rfl rfl rfl (by decide) dX0_dueForS_46 ?_
    refine lv_iand hx hb dX0_dueForS_47 ?_
    refine lv_aload_n hx hb dX0_dueForS_48 rfl (lv_at hl 1 rfl) ?_
    refine va_get (D := D) (ci := 0) (v := .ref h1) (C := RX0) (T := TX0) (N := 6) hx hb hts hin0 hown hK hP 0 rfl rfl 0 (by decide) (hts (.fieldLink RX0 9 "ControlFile" "kept" "[I") (by decide +kernel)) (fun _ h9 => h9) rfl dX0_dueForS_49 ?_
    refine lv_bipush (v := 20) hx hb dX0_dueForS_52 (by decide) ?_
    refine cf_ld 20 hx hb hK hP 1 0 rfl rfl rfl (by decide) dX0_dueForS_54 ?_
    refine lv_iconst (v := -1) hx hb dX0_dueForS_55 (by decide) ?_
    refine lv_ixor hx hb dX0_dueForS_56 ?_
    refine lv_iand hx hb dX0_dueForS_57 ?_
    refine lv_istore_n (lv' := [(2, .int (((k 24) &&& (k 21)) &&& ((k 20) ^^^ (-1)))), (1, .int ((cf_pend k tm al ln) &&& (k 1))), (0, .ref h0)]) hx hb dX0_dueForS_58 rfl hl (by decide) rfl (fun ls hl => ?_)
    refine va_gets (C := RX0) (ref := RX0) hx hb hZ.2.2.1.1 hS hown (hts (.fieldLink RX0 94 "ControlFile" "S_ORDER" "[I") (by decide +kernel)) (fun _ h9 => h9) dX0_dueForS_59 ?_
    refine lv_iload_n hx hb dX0_dueForS_62 rfl (lv_at hl 1 rfl) ?_
    refine lv_iload_n hx hb dX0_dueForS_63 rfl (lv_at hl 0 rfl) ?_
    refine lv_ior hx hb dX0_dueForS_64 ?_
    refine cf_callS (As := [.ref (z 2), .int (((cf_pend k tm al ln) &&& (k 1)) ||| (((k 24) &&& (k 21)) &&& ((k 20) ^^^ (-1))))]) (rest := []) ⟨hx, hb, hml, hown, hts⟩ (c_firstS l D z (((cf_pend k tm al ln) &&& (k 1)) ||| (((k 24) &&& (k 21)) &&& ((k 20) ^^^ (-1))))) (va_cwS 2 hts gX0_dueForS_X0_firstOf rfl rfl rfl (by decide +kernel) ⟨Nat.le_of_ble_eq_true rfl, Nat.le_of_ble_eq_true rfl⟩) (hP.sub (ws' := []) [] rfl) (hK.sub (tys' := []) [] rfl) hZ hS rfl hl.1 rfl (Nat.le_of_ble_eq_true rfl) dX0_dueForS_65 ⟨Nat.zero_le _, Nat.zero_le _⟩ ?_
    exact cf_roEnd hx hb hr hlocks (by simp only [cf_dS, cf_dS1, if_neg c_1, if_neg cf_n10, if_pos cf_p00, ↓reduceIte]) dX0_dueForS_68
  · skip
    refine lv_aload_n hx hb dX0_dueForS_8 rfl (lv_at hl 0 rfl) ?_
    refine va_get (D := D) (ci := 0) (v := .ref h1) (C := RX0) (T := TX0) (N := 6) hx hb hts hin0 hown hK hP 0 rfl rfl 0 (by decide) (hts (.fieldLink RX0 9 "ControlFile" "kept" "[I") (by decide +kernel)) (fun _ h9 => h9) rfl dX0_dueForS_9 ?_
    refine lv_iconst (v := 0) hx hb dX0_dueForS_12 (by decide) ?_
    refine cf_ld 0 hx hb hK hP 1 0 rfl rfl rfl (by decide) dX0_dueForS_13 ?_
    refine lv_iconst (v := 2) hx hb dX0_dueForS_14 (by decide) ?_
    refine lv_iand hx hb dX0_dueForS_15 ?_
    refine lv_if_ne (tgt := 21) hx hb dX0_dueForS_16 (by decide) (fun c_2 => ?_) (fun c_2 => ?_)
    · skip
      refine lv_aload_n hx hb dX0_dueForS_21 rfl (lv_at hl 0 rfl) ?_
      refine cf_callV (As := []) (rest := []) ⟨hx, hb, hml, hown, hts⟩ (c_pendingForS l D z h0 h1 cA k md tm al ln od) (cwV 0 hts gX0_dueForS_X0_pendingForS rfl rfl rfl (by decide +kernel) ⟨Nat.le_of_ble_eq_true rfl, Nat.le_of_ble_eq_true rfl⟩) hP hK hZ hS (ci := 0) (q0 := 0) rfl rfl rfl rfl hl.1 rfl (Nat.le_of_ble_eq_true rfl) dX0_dueForS_22 ⟨Nat.zero_le _, Nat.zero_le _⟩ ?_
      refine lv_aload_n hx hb dX0_dueForS_25 rfl (lv_at hl 0 rfl) ?_
      refine va_get (D := D) (ci := 0) (v := .ref h1) (C := RX0) (T := TX0) (N := 6) hx hb hts hin0 hown hK hP 0 rfl rfl 0 (by decide) (hts (.fieldLink RX0 9 "ControlFile" "kept" "[I") (by decide +kernel)) (fun _ h9 => h9) rfl dX0_dueForS_26 ?_
      refine lv_iconst (v := 1) hx hb dX0_dueForS_29 (by decide) ?_
      refine cf_ld 1 hx hb hK hP 1 0 rfl rfl rfl (by decide) dX0_dueForS_30 ?_
      refine lv_iand hx hb dX0_dueForS_31 ?_
      refine lv_istore_n (lv' := [(1, .int ((cf_pend k tm al ln) &&& (k 1))), (0, .ref h0)]) hx hb dX0_dueForS_32 rfl hl (by decide) rfl (fun ls hl => ?_)
      refine lv_aload_n hx hb dX0_dueForS_33 rfl (lv_at hl 1 rfl) ?_
      refine va_get (D := D) (ci := 0) (v := .ref h1) (C := RX0) (T := TX0) (N := 6) hx hb hts hin0 hown hK hP 0 rfl rfl 0 (by decide) (hts (.fieldLink RX0 9 "ControlFile" "kept" "[I") (by decide +kernel)) (fun _ h9 => h9) rfl dX0_dueForS_34 ?_
      refine lv_bipush (v := 24) hx hb dX0_dueForS_37 (by decide) ?_
      refine cf_ld 24 hx hb hK hP 1 0 rfl rfl rfl (by decide) dX0_dueForS_39 ?_
      refine lv_aload_n hx hb dX0_dueForS_40 rfl (lv_at hl 1 rfl) ?_
      refine va_get (D := D) (ci := 0) (v := .ref h1) (C := RX0) (T := TX0) (N := 6) hx hb hts hin0 hown hK hP 0 rfl rfl 0 (by decide) (hts (.fieldLink RX0 9 "ControlFile" "kept" "[I") (by decide +kernel)) (fun _ h9 => h9) rfl dX0_dueForS_41 ?_
      refine lv_bipush (v := 21) hx hb dX0_dueForS_44 (by decide) ?_
      refine cf_ld 21 hx hb hK hP 1 0 rfl rfl rfl (by decide) dX0_dueForS_46 ?_
      refine lv_iand hx hb dX0_dueForS_47 ?_
      refine lv_aload_n hx hb dX0_dueForS_48 rfl (lv_at hl 1 rfl) ?_
      refine va_get (D := D) (ci := 0) (v := .ref h1) (C := RX0) (T := TX0) (N := 6) hx hb hts hin0 hown hK hP 0 rfl rfl 0 (by decide) (hts (.fieldLink RX0 9 "ControlFile" "kept" "[I") (by decide +kernel)) (fun _ h9 => h9) rfl dX0_dueForS_49 ?_
      refine lv_bipush (v := 20) hx hb dX0_dueForS_52 (by decide) ?_
      refine cf_ld 20 hx hb hK hP 1 0 rfl rfl rfl (by decide) dX0_dueForS_54 ?_
      refine lv_iconst (v := -1) hx hb dX0_dueForS_55 (by decide) ?_
      refine lv_ixor hx hb dX0_dueForS_56 ?_
      refine lv_iand hx hb dX0_dueForS_57 ?_
      refine lv_istore_n (lv' := [(2, .int (((k 24) &&& (k 21)) &&& ((k 20) ^^^ (-1)))), (1, .int ((cf_pend k tm al ln) &&& (k 1))), (0, .ref h0)]) hx hb dX0_dueForS_58 rfl hl (by decide) rfl (fun ls hl => ?_)
      refine va_gets (C := RX0) (ref := RX0) hx hb hZ.2.2.1.1 hS hown (hts (.fieldLink RX0 94 "ControlFile" "S_ORDER" "[I") (by decide +kernel)) (fun _ h9 => h9) dX0_dueForS_59 ?_
      refine lv_iload_n hx hb dX0_dueForS_62 rfl (lv_at hl 1 rfl) ?_
      refine lv_iload_n hx hb dX0_dueForS_63 rfl (lv_at hl 0 rfl) ?_
      refine lv_ior hx hb dX0_dueForS_64 ?_
      refine cf_callS (As := [.ref (z 2), .int (((cf_pend k tm al ln) &&& (k 1)) ||| (((k 24) &&& (k 21)) &&& ((k 20) ^^^ (-1))))]) (rest := []) ⟨hx, hb, hml, hown, hts⟩ (c_firstS l D z (((cf_pend k tm al ln) &&& (k 1)) ||| (((k 24) &&& (k 21)) &&& ((k 20) ^^^ (-1))))) (va_cwS 2 hts gX0_dueForS_X0_firstOf rfl rfl rfl (by decide +kernel) ⟨Nat.le_of_ble_eq_true rfl, Nat.le_of_ble_eq_true rfl⟩) (hP.sub (ws' := []) [] rfl) (hK.sub (tys' := []) [] rfl) hZ hS rfl hl.1 rfl (Nat.le_of_ble_eq_true rfl) dX0_dueForS_65 ⟨Nat.zero_le _, Nat.zero_le _⟩ ?_
      exact cf_roEnd hx hb hr hlocks (by simp only [cf_dS, cf_dS1, if_pos c_1, if_neg c_2, if_neg cf_n10, if_pos cf_p00, ↓reduceIte]) dX0_dueForS_68
    · skip
      refine lv_iconst (v := -1) hx hb dX0_dueForS_19 (by decide) ?_
      exact cf_roEnd hx hb hr hlocks (by simp only [cf_dS, cf_dS1, if_pos c_1, if_pos c_2, if_neg cf_n10, if_pos cf_p00, ↓reduceIte]) dX0_dueForS_20
set_option maxHeartbeats 4000000 in
set_option maxRecDepth 100000 in
theorem c_dueForVs (l : Launch) (D : va_G) (z : Nat → Nat) (h0 h1 : Nat) (cA : ClassId) (k : Nat → Int32) (md : Int32) (tm al : Int64) (ln od : Int32) : Met l yX0_dueForVs wsX0_dueForVs ({ frames := 1, cells := 0, slots := 0, locals := 22 } : Room) (cf_ro [.ref h0] D (cf_W 0 h0 h1 cA k md tm al ln od) [(cA, .int)] z) (vp_Si (fun r => r = cf_dV k md)) 0 0 (fun _ => False) := by
  refine Met.ofW (cc := cX0_dueForVs) (maxL := 3) (ret := (some .int)) (by decide) rfl ?_
  intro p e s m args below meth c s₁ B hml hv
  obtain ⟨rfl, hP, hK, hZ⟩ := hv
  have hx := B.exec
  have hb := B.bytes
  have hr := B.returns
  have hts := atoms_spec (ws := wsX0_dueForVs) B.pre
  have hown : s.vm.findClass RX0 = some m.cls := findClass_of_methodNamed B.named
  have hlocks := B.notSynchronized
  have hin0 : ∀ w ∈ wsX00, w ∈ wsX0_dueForVs := by decide +kernel
  have hS : va_S (fun _ => False) s.heap s.heap [] := va_S.rf
  have hl := lv_entry ([.ref h0]) (n := 3) (Nat.le_of_ble_eq_true rfl)
  rw [lg_entry_eq]
  generalize (lg_sl ([.ref h0]) ++ List.replicate (3 - (lg_sl ([.ref h0])).length) Slot.unset).toArray = ls at hl ⊢
  have hl : lv_has ls 3 [(0, .ref h0)] := hl
  refine lv_aload_n hx hb dX0_dueForVs_0 rfl (lv_at hl 0 rfl) ?_
  refine va_get (D := D) (ci := 0) (v := .int md) (C := RX0) (T := TX0) (N := 6) hx hb hts hin0 hown hK hP 0 rfl rfl 1 (by decide) (hts (.fieldLink RX0 16 "ControlFile" "modeNow" "I") (by decide +kernel)) (fun _ h9 => h9) rfl dX0_dueForVs_1 ?_
  refine lv_iconst (v := 2) hx hb dX0_dueForVs_4 (by decide) ?_
  refine lv_icmp_eq (tgt := 28) hx hb dX0_dueForVs_5 (by decide) (fun c_1 => ?_) (fun c_1 => ?_)
  · skip
    refine lv_iconst (v := 1) hx hb dX0_dueForVs_28 (by decide) ?_
    refine lv_goto (tgt := 33) hx hb dX0_dueForVs_29 (by decide) ?_
    refine lv_istore_n (lv' := [(1, .int 1), (0, .ref h0)]) hx hb dX0_dueForVs_33 rfl hl (by decide) rfl (fun ls hl => ?_)
    refine lv_iload_n hx hb dX0_dueForVs_34 rfl (lv_at hl 0 rfl) ?_
    refine lv_if_ne (tgt := 40) hx hb dX0_dueForVs_35 (by decide) (fun c_2 => ?_) (fun c_2 => ?_)
    · skip
      refine va_gets (C := RX0) (ref := RX0) hx hb hZ.2.2.2.1 hS hown (hts (.fieldLink RX0 101 "ControlFile" "VS_ORDER" "[I") (by decide +kernel)) (fun _ h9 => h9) dX0_dueForVs_40 ?_
      refine lv_aload_n hx hb dX0_dueForVs_43 rfl (lv_at hl 1 rfl) ?_
      refine va_get (D := D) (ci := 0) (v := .ref h1) (C := RX0) (T := TX0) (N := 6) hx hb hts hin0 hown hK hP 0 rfl rfl 0 (by decide) (hts (.fieldLink RX0 9 "ControlFile" "kept" "[I") (by decide +kernel)) (fun _ h9 => h9) rfl dX0_dueForVs_44 ?_
      refine lv_bipush (v := 24) hx hb dX0_dueForVs_47 (by decide) ?_
      refine cf_ld 24 hx hb hK hP 1 0 rfl rfl rfl (by decide) dX0_dueForVs_49 ?_
      refine lv_aload_n hx hb dX0_dueForVs_50 rfl (lv_at hl 1 rfl) ?_
      refine va_get (D := D) (ci := 0) (v := .ref h1) (C := RX0) (T := TX0) (N := 6) hx hb hts hin0 hown hK hP 0 rfl rfl 0 (by decide) (hts (.fieldLink RX0 9 "ControlFile" "kept" "[I") (by decide +kernel)) (fun _ h9 => h9) rfl dX0_dueForVs_51 ?_
      refine lv_bipush (v := 21) hx hb dX0_dueForVs_54 (by decide) ?_
      refine cf_ld 21 hx hb hK hP 1 0 rfl rfl rfl (by decide) dX0_dueForVs_56 ?_
      refine lv_iand hx hb dX0_dueForVs_57 ?_
      refine lv_aload_n hx hb dX0_dueForVs_58 rfl (lv_at hl 1 rfl) ?_
      refine va_get (D := D) (ci := 0) (v := .ref h1) (C := RX0) (T := TX0) (N := 6) hx hb hts hin0 hown hK hP 0 rfl rfl 0 (by decide) (hts (.fieldLink RX0 9 "ControlFile" "kept" "[I") (by decide +kernel)) (fun _ h9 => h9) rfl dX0_dueForVs_59 ?_
      refine lv_bipush (v := 20) hx hb dX0_dueForVs_62 (by decide) ?_
      refine cf_ld 20 hx hb hK hP 1 0 rfl rfl rfl (by decide) dX0_dueForVs_64 ?_
      refine lv_iand hx hb dX0_dueForVs_65 ?_
      refine cf_callS (As := [.ref (z 3), .int (((k 24) &&& (k 21)) &&& (k 20))]) (rest := []) ⟨hx, hb, hml, hown, hts⟩ (c_firstV l D z (((k 24) &&& (k 21)) &&& (k 20))) (va_cwS 2 hts gX0_dueForVs_X0_firstOf rfl rfl rfl (by decide +kernel) ⟨Nat.le_of_ble_eq_true rfl, Nat.le_of_ble_eq_true rfl⟩) (hP.sub (ws' := []) [] rfl) (hK.sub (tys' := []) [] rfl) hZ hS rfl hl.1 rfl (Nat.le_of_ble_eq_true rfl) dX0_dueForVs_66 ⟨Nat.zero_le _, Nat.zero_le _⟩ ?_
      refine lv_istore_n (lv' := [(2, .int (cf_fst cf_vo (((k 24) &&& (k 21)) &&& (k 20)) 0 3)), (1, .int 1), (0, .ref h0)]) hx hb dX0_dueForVs_69 rfl hl (by decide) rfl (fun ls hl => ?_)
      refine lv_iload_n hx hb dX0_dueForVs_70 rfl (lv_at hl 0 rfl) ?_
      refine lv_iconst (v := -1) hx hb dX0_dueForVs_71 (by decide) ?_
      refine lv_icmp_ne (tgt := 79) hx hb dX0_dueForVs_72 (by decide) (fun c_3 => ?_) (fun c_3 => ?_)
      · skip
        refine lv_iload_n hx hb dX0_dueForVs_79 rfl (lv_at hl 0 rfl) ?_
        refine lv_bipush (v := 99) hx hb dX0_dueForVs_80 (by decide) ?_
        refine lv_iadd hx hb dX0_dueForVs_82 ?_
        exact cf_roEnd hx hb hr hlocks (by simp only [cf_dV, cf_dV1, if_pos c_1, if_neg c_2, if_neg c_3, if_neg cf_n10, if_pos cf_p00, ↓reduceIte]) dX0_dueForVs_83
      · skip
        refine lv_iconst (v := -1) hx hb dX0_dueForVs_75 (by decide) ?_
        refine lv_goto (tgt := 83) hx hb dX0_dueForVs_76 (by decide) ?_
        exact cf_roEnd hx hb hr hlocks (by simp only [cf_dV, cf_dV1, if_pos c_1, if_neg c_2, if_pos c_3, if_neg cf_n10, if_pos cf_p00, ↓reduceIte]) dX0_dueForVs_83
    · skip
      exact absurd c_2 (by decide)
  · skip
    refine lv_aload_n hx hb dX0_dueForVs_8 rfl (lv_at hl 0 rfl) ?_
    refine va_get (D := D) (ci := 0) (v := .int md) (C := RX0) (T := TX0) (N := 6) hx hb hts hin0 hown hK hP 0 rfl rfl 1 (by decide) (hts (.fieldLink RX0 16 "ControlFile" "modeNow" "I") (by decide +kernel)) (fun _ h9 => h9) rfl dX0_dueForVs_9 ?_
    refine lv_iconst (v := 3) hx hb dX0_dueForVs_12 (by decide) ?_
    refine lv_icmp_ne (tgt := 32) hx hb dX0_dueForVs_13 (by decide) (fun c_4 => ?_) (fun c_4 => ?_)
    · skip
      refine lv_iconst (v := 0) hx hb dX0_dueForVs_32 (by decide) ?_
      refine lv_istore_n (lv' := [(1, .int 0), (0, .ref h0)]) hx hb dX0_dueForVs_33 rfl hl (by decide) rfl (fun ls hl => ?_)
      refine lv_iload_n hx hb dX0_dueForVs_34 rfl (lv_at hl 0 rfl) ?_
      refine lv_if_ne (tgt := 40) hx hb dX0_dueForVs_35 (by decide) (fun c_5 => ?_) (fun c_5 => ?_)
      · skip
        exact absurd (by decide) c_5
      · skip
        refine lv_iconst (v := -1) hx hb dX0_dueForVs_38 (by decide) ?_
        exact cf_roEnd hx hb hr hlocks (by simp only [cf_dV, cf_dV1, if_neg c_1, if_neg c_4, if_pos c_5, if_neg cf_n10, if_pos cf_p00, ↓reduceIte]) dX0_dueForVs_39
    · skip
      refine lv_aload_n hx hb dX0_dueForVs_16 rfl (lv_at hl 0 rfl) ?_
      refine va_get (D := D) (ci := 0) (v := .ref h1) (C := RX0) (T := TX0) (N := 6) hx hb hts hin0 hown hK hP 0 rfl rfl 0 (by decide) (hts (.fieldLink RX0 9 "ControlFile" "kept" "[I") (by decide +kernel)) (fun _ h9 => h9) rfl dX0_dueForVs_17 ?_
      refine lv_bipush (v := 9) hx hb dX0_dueForVs_20 (by decide) ?_
      refine cf_ld 9 hx hb hK hP 1 0 rfl rfl rfl (by decide) dX0_dueForVs_22 ?_
      refine lv_iconst (v := 2) hx hb dX0_dueForVs_23 (by decide) ?_
      refine lv_iand hx hb dX0_dueForVs_24 ?_
      refine lv_if_eq (tgt := 32) hx hb dX0_dueForVs_25 (by decide) (fun c_6 => ?_) (fun c_6 => ?_)
      · skip
        refine lv_iconst (v := 0) hx hb dX0_dueForVs_32 (by decide) ?_
        refine lv_istore_n (lv' := [(1, .int 0), (0, .ref h0)]) hx hb dX0_dueForVs_33 rfl hl (by decide) rfl (fun ls hl => ?_)
        refine lv_iload_n hx hb dX0_dueForVs_34 rfl (lv_at hl 0 rfl) ?_
        refine lv_if_ne (tgt := 40) hx hb dX0_dueForVs_35 (by decide) (fun c_7 => ?_) (fun c_7 => ?_)
        · skip
          exact absurd (by decide) c_7
        · skip
          refine lv_iconst (v := -1) hx hb dX0_dueForVs_38 (by decide) ?_
          exact cf_roEnd hx hb hr hlocks (by simp only [cf_dV, cf_dV1, if_neg c_1, if_pos c_4, if_pos c_6, if_pos c_7, if_neg cf_n10, if_pos cf_p00, ↓reduceIte]) dX0_dueForVs_39
      · skip
        refine lv_iconst (v := 1) hx hb dX0_dueForVs_28 (by decide) ?_
        refine lv_goto (tgt := 33) hx hb dX0_dueForVs_29 (by decide) ?_
        refine lv_istore_n (lv' := [(1, .int 1), (0, .ref h0)]) hx hb dX0_dueForVs_33 rfl hl (by decide) rfl (fun ls hl => ?_)
        refine lv_iload_n hx hb dX0_dueForVs_34 rfl (lv_at hl 0 rfl) ?_
        refine lv_if_ne (tgt := 40) hx hb dX0_dueForVs_35 (by decide) (fun c_8 => ?_) (fun c_8 => ?_)
        · skip
          refine va_gets (C := RX0) (ref := RX0) hx hb hZ.2.2.2.1 hS hown (hts (.fieldLink RX0 101 "ControlFile" "VS_ORDER" "[I") (by decide +kernel)) (fun _ h9 => h9) dX0_dueForVs_40 ?_
          refine lv_aload_n hx hb dX0_dueForVs_43 rfl (lv_at hl 1 rfl) ?_
          refine va_get (D := D) (ci := 0) (v := .ref h1) (C := RX0) (T := TX0) (N := 6) hx hb hts hin0 hown hK hP 0 rfl rfl 0 (by decide) (hts (.fieldLink RX0 9 "ControlFile" "kept" "[I") (by decide +kernel)) (fun _ h9 => h9) rfl dX0_dueForVs_44 ?_
          refine lv_bipush (v := 24) hx hb dX0_dueForVs_47 (by decide) ?_
          refine cf_ld 24 hx hb hK hP 1 0 rfl rfl rfl (by decide) dX0_dueForVs_49 ?_
          refine lv_aload_n hx hb dX0_dueForVs_50 rfl (lv_at hl 1 rfl) ?_
          refine va_get (D := D) (ci := 0) (v := .ref h1) (C := RX0) (T := TX0) (N := 6) hx hb hts hin0 hown hK hP 0 rfl rfl 0 (by decide) (hts (.fieldLink RX0 9 "ControlFile" "kept" "[I") (by decide +kernel)) (fun _ h9 => h9) rfl dX0_dueForVs_51 ?_
          refine lv_bipush (v := 21) hx hb dX0_dueForVs_54 (by decide) ?_
          refine cf_ld 21 hx hb hK hP 1 0 rfl rfl rfl (by decide) dX0_dueForVs_56 ?_
          refine lv_iand hx hb dX0_dueForVs_57 ?_
          refine lv_aload_n hx hb dX0_dueForVs_58 rfl (lv_at hl 1 rfl) ?_
          refine va_get (D := D) (ci := 0) (v := .ref h1) (C := RX0) (T := TX0) (N := 6) hx hb hts hin0 hown hK hP 0 rfl rfl 0 (by decide) (hts (.fieldLink RX0 9 "ControlFile" "kept" "[I") (by decide +kernel)) (fun _ h9 => h9) rfl dX0_dueForVs_59 ?_
          refine lv_bipush (v := 20) hx hb dX0_dueForVs_62 (by decide) ?_
          refine cf_ld 20 hx hb hK hP 1 0 rfl rfl rfl (by decide) dX0_dueForVs_64 ?_
          refine lv_iand hx hb dX0_dueForVs_65 ?_
          refine cf_callS (As := [.ref (z 3), .int (((k 24) &&& (k 21)) &&& (k 20))]) (rest := []) ⟨hx, hb, hml, hown, hts⟩ (c_firstV l D z (((k 24) &&& (k 21)) &&& (k 20))) (va_cwS 2 hts gX0_dueForVs_X0_firstOf rfl rfl rfl (by decide +kernel) ⟨Nat.le_of_ble_eq_true rfl, Nat.le_of_ble_eq_true rfl⟩) (hP.sub (ws' := []) [] rfl) (hK.sub (tys' := []) [] rfl) hZ hS rfl hl.1 rfl (Nat.le_of_ble_eq_true rfl) dX0_dueForVs_66 ⟨Nat.zero_le _, Nat.zero_le _⟩ ?_
          refine lv_istore_n (lv' := [(2, .int (cf_fst cf_vo (((k 24) &&& (k 21)) &&& (k 20)) 0 3)), (1, .int 1), (0, .ref h0)]) hx hb dX0_dueForVs_69 rfl hl (by decide) rfl (fun ls hl => ?_)
          refine lv_iload_n hx hb dX0_dueForVs_70 rfl (lv_at hl 0 rfl) ?_
          refine lv_iconst (v := -1) hx hb dX0_dueForVs_71 (by decide) ?_
          refine lv_icmp_ne (tgt := 79) hx hb dX0_dueForVs_72 (by decide) (fun c_9 => ?_) (fun c_9 => ?_)
          · skip
            refine lv_iload_n hx hb dX0_dueForVs_79 rfl (lv_at hl 0 rfl) ?_
            refine lv_bipush (v := 99) hx hb dX0_dueForVs_80 (by decide) ?_
            refine lv_iadd hx hb dX0_dueForVs_82 ?_
            exact cf_roEnd hx hb hr hlocks (by simp only [cf_dV, cf_dV1, if_neg c_1, if_pos c_4, if_neg c_6, if_neg c_8, if_neg c_9, if_neg cf_n10, if_pos cf_p00, ↓reduceIte]) dX0_dueForVs_83
          · skip
            refine lv_iconst (v := -1) hx hb dX0_dueForVs_75 (by decide) ?_
            refine lv_goto (tgt := 83) hx hb dX0_dueForVs_76 (by decide) ?_
            exact cf_roEnd hx hb hr hlocks (by simp only [cf_dV, cf_dV1, if_neg c_1, if_pos c_4, if_neg c_6, if_neg c_8, if_pos c_9, if_neg cf_n10, if_pos cf_p00, ↓reduceIte]) dX0_dueForVs_83
        · skip
          exact absurd c_8 (by decide)
set_option maxHeartbeats 4000000 in
set_option maxRecDepth 100000 in
theorem c_due (l : Launch) (D : va_G) (z : Nat → Nat) (h0 h1 : Nat) (cA : ClassId) (k : Nat → Int32) (md : Int32) (tm al : Int64) (ln od : Int32) : Met l yX0_due wsX0_due ({ frames := 2, cells := 0, slots := 0, locals := 44 } : Room) (cf_ro [.ref h0] D (cf_W 0 h0 h1 cA k md tm al ln od) [(cA, .int)] z) (vp_Si (fun r => r = cf_due k md tm al ln)) 0 0 (fun _ => False) := by
  refine Met.ofW (cc := cX0_due) (maxL := 2) (ret := (some .int)) (by decide) rfl ?_
  intro p e s m args below meth c s₁ B hml hv
  obtain ⟨rfl, hP, hK, hZ⟩ := hv
  have hx := B.exec
  have hb := B.bytes
  have hr := B.returns
  have hts := atoms_spec (ws := wsX0_due) B.pre
  have hown : s.vm.findClass RX0 = some m.cls := findClass_of_methodNamed B.named
  have hlocks := B.notSynchronized
  have hS : va_S (fun _ => False) s.heap s.heap [] := va_S.rf
  have hl := lv_entry ([.ref h0]) (n := 2) (Nat.le_of_ble_eq_true rfl)
  rw [lg_entry_eq]
  generalize (lg_sl ([.ref h0]) ++ List.replicate (2 - (lg_sl ([.ref h0])).length) Slot.unset).toArray = ls at hl ⊢
  have hl : lv_has ls 2 [(0, .ref h0)] := hl
  refine lv_aload_n hx hb dX0_due_0 rfl (lv_at hl 0 rfl) ?_
  refine cf_callV (As := []) (rest := []) ⟨hx, hb, hml, hown, hts⟩ (c_dueForS l D z h0 h1 cA k md tm al ln od) (cwV 0 hts gX0_due_X0_dueForS rfl rfl rfl (by decide +kernel) ⟨Nat.le_of_ble_eq_true rfl, Nat.le_of_ble_eq_true rfl⟩) hP hK hZ hS (ci := 0) (q0 := 0) rfl rfl rfl rfl hl.1 rfl (Nat.le_of_ble_eq_true rfl) dX0_due_1 ⟨Nat.zero_le _, Nat.zero_le _⟩ ?_
  refine lv_istore_n (lv' := [(1, .int (cf_dS k md tm al ln)), (0, .ref h0)]) hx hb dX0_due_4 rfl hl (by decide) rfl (fun ls hl => ?_)
  refine lv_iload_n hx hb dX0_due_5 rfl (lv_at hl 0 rfl) ?_
  refine lv_iconst (v := -1) hx hb dX0_due_6 (by decide) ?_
  refine lv_icmp_eq (tgt := 14) hx hb dX0_due_7 (by decide) (fun c_1 => ?_) (fun c_1 => ?_)
  · skip
    refine lv_aload_n hx hb dX0_due_14 rfl (lv_at hl 1 rfl) ?_
    refine cf_callV (As := []) (rest := []) ⟨hx, hb, hml, hown, hts⟩ (c_dueForVs l D z h0 h1 cA k md tm al ln od) (cwV 0 hts gX0_due_X0_dueForVs rfl rfl rfl (by decide +kernel) ⟨Nat.le_of_ble_eq_true rfl, Nat.le_of_ble_eq_true rfl⟩) hP hK hZ hS (ci := 0) (q0 := 0) rfl rfl rfl rfl hl.1 rfl (Nat.le_of_ble_eq_true rfl) dX0_due_15 ⟨Nat.zero_le _, Nat.zero_le _⟩ ?_
    exact cf_roEnd hx hb hr hlocks (by simp only [cf_due, if_pos c_1, if_neg cf_n10, if_pos cf_p00, ↓reduceIte]) dX0_due_18
  · skip
    refine lv_iload_n hx hb dX0_due_10 rfl (lv_at hl 0 rfl) ?_
    refine lv_goto (tgt := 18) hx hb dX0_due_11 (by decide) ?_
    exact cf_roEnd hx hb hr hlocks (by simp only [cf_due, if_neg c_1, if_neg cf_n10, if_pos cf_p00, ↓reduceIte]) dX0_due_18
end
section
set_option maxHeartbeats 4000000 in
set_option maxRecDepth 100000 in
theorem c_mode (l : Launch) (D : va_G) (z : Nat → Nat) (h0 h1 : Nat) (cA : ClassId) (k : Nat → Int32) (md : Int32) (tm al : Int64) (ln od : Int32) (sz : Nat) (x : Int32) : Met l yX0_mode wsX0_mode ({ frames := 0, cells := 0, slots := 0, locals := 0 } : Room) (cf_wr [.ref h0, .int x] D (cf_W 0 h0 h1 cA k md tm al ln od) [(cA, .int)] sz z) (va_Qi (fun r u => r = cf_mdR md x ∧ u = cf_W 0 h0 h1 cA k (cf_mdM md x) tm al ln od) (cf_B D [(cA, .int)] (va_A (cf_W 0 h0 h1 cA k md tm al ln od) sz)) (va_A (cf_W 0 h0 h1 cA k md tm al ln od) sz)) 0 0 (va_A (cf_W 0 h0 h1 cA k md tm al ln od) sz) := by
  refine Met.ofW (cc := cX0_mode) (maxL := 3) (ret := (some .int)) (by decide) rfl ?_
  intro p e s m args below meth c s₁ B hml hv
  obtain ⟨rfl, hsz, hP, hK, hD0, hZ⟩ := hv
  have hx := B.exec
  have hb := B.bytes
  have hr := B.returns
  have hts := atoms_spec (ws := wsX0_mode) B.pre
  have hown : s.vm.findClass RX0 = some m.cls := findClass_of_methodNamed B.named
  have hlocks := B.notSynchronized
  have hin0 : ∀ w ∈ wsX00, w ∈ wsX0_mode := by decide +kernel
  subst hsz
  have hD := hD0.self (sz := s.heap.size)
  generalize hAe : va_A (cf_W 0 h0 h1 cA k md tm al ln od) s.heap.size = A at hD hZ ⊢
  have hA : ∀ q : Nat, s.heap.size ≤ q → A q := fun q h => by rw [← hAe]; exact Or.inr h
  have hS : va_S A s.heap s.heap [] := va_S.rf
  have hl := lv_entry ([.ref h0, .int x]) (n := 3) (Nat.le_of_ble_eq_true rfl)
  rw [lg_entry_eq]
  generalize (lg_sl ([.ref h0, .int x]) ++ List.replicate (3 - (lg_sl ([.ref h0, .int x])).length) Slot.unset).toArray = ls at hl ⊢
  have hl : lv_has ls 3 [(0, .ref h0), (1, .int x)] := hl
  refine lv_iload_n hx hb dX0_mode_0 rfl (lv_at hl 1 rfl) ?_
  refine lv_if_lt (tgt := 9) hx hb dX0_mode_1 (by decide) (fun c_1 => ?_) (fun c_1 => ?_)
  · skip
    refine lv_iconst (v := -1) hx hb dX0_mode_9 (by decide) ?_
    exact cf_wrEnd hx hb hr hlocks hP hD hK hS (by simp only [cf_mdR, cf_mdM, if_pos c_1, if_neg cf_n10, if_pos cf_p00, ↓reduceIte]) (by simp only [cf_mdR, cf_mdM, if_pos c_1, if_neg cf_n10, if_pos cf_p00, ↓reduceIte]) dX0_mode_10
  · skip
    refine lv_iload_n hx hb dX0_mode_4 rfl (lv_at hl 1 rfl) ?_
    refine lv_iconst (v := 3) hx hb dX0_mode_5 (by decide) ?_
    refine lv_icmp_le (tgt := 11) hx hb dX0_mode_6 (by decide) (fun c_2 => ?_) (fun c_2 => ?_)
    · skip
      refine lv_aload_n hx hb dX0_mode_11 rfl (lv_at hl 0 rfl) ?_
      refine va_get (D := D) (ci := 0) (v := .int md) (C := RX0) (T := TX0) (N := 6) hx hb hts hin0 hown hK hP 0 rfl rfl 1 (by decide) (hts (.fieldLink RX0 16 "ControlFile" "modeNow" "I") (by decide +kernel)) (fun _ h9 => h9) rfl dX0_mode_12 ?_
      refine lv_istore_n (lv' := [(2, .int md), (0, .ref h0), (1, .int x)]) hx hb dX0_mode_15 rfl hl (by decide) rfl (fun ls hl => ?_)
      refine lv_aload_n hx hb dX0_mode_16 rfl (lv_at hl 1 rfl) ?_
      refine lv_iload_n hx hb dX0_mode_17 rfl (lv_at hl 2 rfl) ?_
      refine va_put (D := D) (ci := 0) (v := .int x) (ty := .int) (C := RX0) (T := TX0) (N := 6) hx hb hts hin0 tyX0 tyX0_ok nmX0 hown hK hP hD hS 0 rfl rfl 1 (by decide) (hts (.fieldLink RX0 16 "ControlFile" "modeNow" "I") (by decide +kernel)) (fun _ h9 => h9) rfl (by decide +kernel) rfl rfl (Nat.le_of_ble_eq_true rfl) dX0_mode_18 (fun H locs hP hD hS => ?_)
      have hP : va_P D vwCl (cf_W 0 h0 h1 cA k x tm al ln od) H := hP
      have hD : va_D A (cf_W 0 h0 h1 cA k x tm al ln od) := hD
      refine lv_iload_n hx hb dX0_mode_21 rfl (lv_at hl 0 rfl) ?_
      exact cf_wrEnd hx hb hr hlocks hP hD hK hS (by simp only [cf_mdR, cf_mdM, if_neg c_1, if_pos c_2, if_neg cf_n10, if_pos cf_p00, ↓reduceIte]) (by simp only [cf_mdR, cf_mdM, if_neg c_1, if_pos c_2, if_neg cf_n10, if_pos cf_p00, ↓reduceIte]) dX0_mode_22
    · skip
      refine lv_iconst (v := -1) hx hb dX0_mode_9 (by decide) ?_
      exact cf_wrEnd hx hb hr hlocks hP hD hK hS (by simp only [cf_mdR, cf_mdM, if_neg c_1, if_neg c_2, if_neg cf_n10, if_pos cf_p00, ↓reduceIte]) (by simp only [cf_mdR, cf_mdM, if_neg c_1, if_neg c_2, if_neg cf_n10, if_pos cf_p00, ↓reduceIte]) dX0_mode_10
set_option maxHeartbeats 4000000 in
set_option maxRecDepth 100000 in
theorem c_time (l : Launch) (D : va_G) (z : Nat → Nat) (h0 h1 : Nat) (cA : ClassId) (k : Nat → Int32) (md : Int32) (tm al : Int64) (ln od : Int32) (sz : Nat) (t : Int64) : Met l yX0_time wsX0_time ({ frames := 0, cells := 0, slots := 0, locals := 0 } : Room) (cf_wr [.ref h0, .long t] D (cf_W 0 h0 h1 cA k md tm al ln od) [(cA, .int)] sz z) (va_Ql (fun r u => r = cf_tmR tm t ∧ u = cf_W 0 h0 h1 cA k md (cf_tmM tm t) al ln od) (cf_B D [(cA, .int)] (va_A (cf_W 0 h0 h1 cA k md tm al ln od) sz)) (va_A (cf_W 0 h0 h1 cA k md tm al ln od) sz)) 0 0 (va_A (cf_W 0 h0 h1 cA k md tm al ln od) sz) := by
  refine Met.ofW (cc := cX0_time) (maxL := 5) (ret := (some .long)) (by decide) rfl ?_
  intro p e s m args below meth c s₁ B hml hv
  obtain ⟨rfl, hsz, hP, hK, hD0, hZ⟩ := hv
  have hx := B.exec
  have hb := B.bytes
  have hr := B.returns
  have hts := atoms_spec (ws := wsX0_time) B.pre
  have hown : s.vm.findClass RX0 = some m.cls := findClass_of_methodNamed B.named
  have hlocks := B.notSynchronized
  have hin0 : ∀ w ∈ wsX00, w ∈ wsX0_time := by decide +kernel
  subst hsz
  have hD := hD0.self (sz := s.heap.size)
  generalize hAe : va_A (cf_W 0 h0 h1 cA k md tm al ln od) s.heap.size = A at hD hZ ⊢
  have hA : ∀ q : Nat, s.heap.size ≤ q → A q := fun q h => by rw [← hAe]; exact Or.inr h
  have hS : va_S A s.heap s.heap [] := va_S.rf
  have hl := lv_entry ([.ref h0, .long t]) (n := 5) (Nat.le_of_ble_eq_true rfl)
  rw [lg_entry_eq]
  generalize (lg_sl ([.ref h0, .long t]) ++ List.replicate (5 - (lg_sl ([.ref h0, .long t])).length) Slot.unset).toArray = ls at hl ⊢
  have hl : lv_has ls 5 [(0, .ref h0), (1, .long t)] := hl
  refine lv_lload_n hx hb dX0_time_0 rfl (lv_at hl 1 rfl) ?_
  refine lv_lconst (v := 0) hx hb dX0_time_1 (by decide) ?_
  refine W.lcmp hx hb dX0_time_2 ?_
  refine lv_if_ge (tgt := 10) hx hb dX0_time_3 (by decide) (fun c_1 => ?_) (fun c_1 => ?_)
  · skip
    refine lv_aload_n hx hb dX0_time_10 rfl (lv_at hl 0 rfl) ?_
    refine va_get (D := D) (ci := 0) (v := .long tm) (C := RX0) (T := TX0) (N := 6) hx hb hts hin0 hown hK hP 0 rfl rfl 2 (by decide) (hts (.fieldLink RX0 22 "ControlFile" "timeNow" "J") (by decide +kernel)) (fun _ h9 => h9) rfl dX0_time_11 ?_
    refine lv_lstore_n (lv' := [(3, .long tm), (0, .ref h0), (1, .long t)]) hx hb dX0_time_14 rfl hl (by decide) rfl (fun ls hl => ?_)
    refine lv_aload_n hx hb dX0_time_15 rfl (lv_at hl 1 rfl) ?_
    refine lv_lload_n hx hb dX0_time_16 rfl (lv_at hl 2 rfl) ?_
    refine va_put (D := D) (ci := 0) (v := .long t) (ty := .long) (C := RX0) (T := TX0) (N := 6) hx hb hts hin0 tyX0 tyX0_ok nmX0 hown hK hP hD hS 0 rfl rfl 2 (by decide) (hts (.fieldLink RX0 22 "ControlFile" "timeNow" "J") (by decide +kernel)) (fun _ h9 => h9) rfl (by decide +kernel) rfl rfl (Nat.le_of_ble_eq_true rfl) dX0_time_17 (fun H locs hP hD hS => ?_)
    have hP : va_P D vwCl (cf_W 0 h0 h1 cA k md t al ln od) H := hP
    have hD : va_D A (cf_W 0 h0 h1 cA k md t al ln od) := hD
    refine lv_lload_n hx hb dX0_time_20 rfl (lv_at hl 0 rfl) ?_
    exact cf_wrEndL hx hb hr hlocks hP hD hK hS (by simp only [cf_tmR, cf_tmM, if_pos c_1, if_neg cf_n10, if_pos cf_p00, ↓reduceIte]) (by simp only [cf_tmR, cf_tmM, if_pos c_1, if_neg cf_n10, if_pos cf_p00, ↓reduceIte]) dX0_time_21
  · skip
    refine lv_ldc2 (own := RX0) (v := -1) hx hb hown (hts (.constantLong RX0 20 (-1)) (by decide +kernel)) dX0_time_6 ?_
    exact cf_wrEndL hx hb hr hlocks hP hD hK hS (by simp only [cf_tmR, cf_tmM, if_neg c_1, if_neg cf_n10, if_pos cf_p00, ↓reduceIte]) (by simp only [cf_tmR, cf_tmM, if_neg c_1, if_neg cf_n10, if_pos cf_p00, ↓reduceIte]) dX0_time_9
set_option maxHeartbeats 4000000 in
set_option maxRecDepth 100000 in
theorem c_alarm (l : Launch) (D : va_G) (z : Nat → Nat) (h0 h1 : Nat) (cA : ClassId) (k : Nat → Int32) (md : Int32) (tm al : Int64) (ln od : Int32) (sz : Nat) (t : Int64) : Met l yX0_alarm wsX0_alarm ({ frames := 0, cells := 0, slots := 0, locals := 0 } : Room) (cf_wr [.ref h0, .long t] D (cf_W 0 h0 h1 cA k md tm al ln od) [(cA, .int)] sz z) (va_Ql (fun r u => r = al ∧ u = cf_W 0 h0 h1 cA k md tm (cf_alM t) ln od) (cf_B D [(cA, .int)] (va_A (cf_W 0 h0 h1 cA k md tm al ln od) sz)) (va_A (cf_W 0 h0 h1 cA k md tm al ln od) sz)) 0 0 (va_A (cf_W 0 h0 h1 cA k md tm al ln od) sz) := by
  refine Met.ofW (cc := cX0_alarm) (maxL := 5) (ret := (some .long)) (by decide) rfl ?_
  intro p e s m args below meth c s₁ B hml hv
  obtain ⟨rfl, hsz, hP, hK, hD0, hZ⟩ := hv
  have hx := B.exec
  have hb := B.bytes
  have hr := B.returns
  have hts := atoms_spec (ws := wsX0_alarm) B.pre
  have hown : s.vm.findClass RX0 = some m.cls := findClass_of_methodNamed B.named
  have hlocks := B.notSynchronized
  have hin0 : ∀ w ∈ wsX00, w ∈ wsX0_alarm := by decide +kernel
  subst hsz
  have hD := hD0.self (sz := s.heap.size)
  generalize hAe : va_A (cf_W 0 h0 h1 cA k md tm al ln od) s.heap.size = A at hD hZ ⊢
  have hA : ∀ q : Nat, s.heap.size ≤ q → A q := fun q h => by rw [← hAe]; exact Or.inr h
  have hS : va_S A s.heap s.heap [] := va_S.rf
  have hl := lv_entry ([.ref h0, .long t]) (n := 5) (Nat.le_of_ble_eq_true rfl)
  rw [lg_entry_eq]
  generalize (lg_sl ([.ref h0, .long t]) ++ List.replicate (5 - (lg_sl ([.ref h0, .long t])).length) Slot.unset).toArray = ls at hl ⊢
  have hl : lv_has ls 5 [(0, .ref h0), (1, .long t)] := hl
  refine lv_aload_n hx hb dX0_alarm_0 rfl (lv_at hl 0 rfl) ?_
  refine va_get (D := D) (ci := 0) (v := .long al) (C := RX0) (T := TX0) (N := 6) hx hb hts hin0 hown hK hP 0 rfl rfl 3 (by decide) (hts (.fieldLink RX0 26 "ControlFile" "alarmAt" "J") (by decide +kernel)) (fun _ h9 => h9) rfl dX0_alarm_1 ?_
  refine lv_lstore_n (lv' := [(3, .long al), (0, .ref h0), (1, .long t)]) hx hb dX0_alarm_4 rfl hl (by decide) rfl (fun ls hl => ?_)
  refine lv_aload_n hx hb dX0_alarm_5 rfl (lv_at hl 1 rfl) ?_
  refine lv_lload_n hx hb dX0_alarm_6 rfl (lv_at hl 2 rfl) ?_
  refine lv_lconst (v := 0) hx hb dX0_alarm_7 (by decide) ?_
  refine W.lcmp hx hb dX0_alarm_8 ?_
  refine lv_if_ge (tgt := 18) hx hb dX0_alarm_9 (by decide) (fun c_1 => ?_) (fun c_1 => ?_)
  · skip
    refine lv_lload_n hx hb dX0_alarm_18 rfl (lv_at hl 2 rfl) ?_
    refine va_put (D := D) (ci := 0) (v := .long t) (ty := .long) (C := RX0) (T := TX0) (N := 6) hx hb hts hin0 tyX0 tyX0_ok nmX0 hown hK hP hD hS 0 rfl rfl 3 (by decide) (hts (.fieldLink RX0 26 "ControlFile" "alarmAt" "J") (by decide +kernel)) (fun _ h9 => h9) rfl (by decide +kernel) rfl rfl (Nat.le_of_ble_eq_true rfl) dX0_alarm_19 (fun H locs hP hD hS => ?_)
    have hP : va_P D vwCl (cf_W 0 h0 h1 cA k md tm t ln od) H := hP
    have hD : va_D A (cf_W 0 h0 h1 cA k md tm t ln od) := hD
    refine lv_lload_n hx hb dX0_alarm_22 rfl (lv_at hl 0 rfl) ?_
    exact cf_wrEndL hx hb hr hlocks hP hD hK hS rfl (by simp only [cf_alM, if_pos c_1, if_neg cf_n10, if_pos cf_p00, ↓reduceIte]) dX0_alarm_23
  · skip
    refine lv_ldc2 (own := RX0) (v := 9223372036854775807) hx hb hown (hts (.constantLong RX0 29 9223372036854775807) (by decide +kernel)) dX0_alarm_12 ?_
    refine lv_goto (tgt := 19) hx hb dX0_alarm_15 (by decide) ?_
    refine va_put (D := D) (ci := 0) (v := .long 9223372036854775807) (ty := .long) (C := RX0) (T := TX0) (N := 6) hx hb hts hin0 tyX0 tyX0_ok nmX0 hown hK hP hD hS 0 rfl rfl 3 (by decide) (hts (.fieldLink RX0 26 "ControlFile" "alarmAt" "J") (by decide +kernel)) (fun _ h9 => h9) rfl (by decide +kernel) rfl rfl (Nat.le_of_ble_eq_true rfl) dX0_alarm_19 (fun H locs hP hD hS => ?_)
    have hP : va_P D vwCl (cf_W 0 h0 h1 cA k md tm 9223372036854775807 ln od) H := hP
    have hD : va_D A (cf_W 0 h0 h1 cA k md tm 9223372036854775807 ln od) := hD
    refine lv_lload_n hx hb dX0_alarm_22 rfl (lv_at hl 0 rfl) ?_
    exact cf_wrEndL hx hb hr hlocks hP hD hK hS rfl (by simp only [cf_alM, if_neg c_1, if_neg cf_n10, if_pos cf_p00, ↓reduceIte]) dX0_alarm_23
set_option maxHeartbeats 4000000 in
set_option maxRecDepth 100000 in
theorem c_line (l : Launch) (D : va_G) (z : Nat → Nat) (h0 h1 : Nat) (cA : ClassId) (k : Nat → Int32) (md : Int32) (tm al : Int64) (ln od : Int32) (sz : Nat) (on : Int32) (hln : ln = 0 ∨ ln = 1) (hon : on = 0 ∨ on = 1) : Met l yX0_line wsX0_line ({ frames := 0, cells := 0, slots := 0, locals := 0 } : Room) (cf_wr [.ref h0, .int on] D (cf_W 0 h0 h1 cA k md tm al ln od) [(cA, .int)] sz z) (va_Qi (fun r u => r = ln ∧ u = cf_W 0 h0 h1 cA k md tm al on od) (cf_B D [(cA, .int)] (va_A (cf_W 0 h0 h1 cA k md tm al ln od) sz)) (va_A (cf_W 0 h0 h1 cA k md tm al ln od) sz)) 0 0 (va_A (cf_W 0 h0 h1 cA k md tm al ln od) sz) := by
  refine Met.ofW (cc := cX0_line) (maxL := 3) (ret := (some .boolean)) (by decide) rfl ?_
  intro p e s m args below meth c s₁ B hml hv
  obtain ⟨rfl, hsz, hP, hK, hD0, hZ⟩ := hv
  have hx := B.exec
  have hb := B.bytes
  have hr := B.returns
  have hts := atoms_spec (ws := wsX0_line) B.pre
  have hown : s.vm.findClass RX0 = some m.cls := findClass_of_methodNamed B.named
  have hlocks := B.notSynchronized
  have hin0 : ∀ w ∈ wsX00, w ∈ wsX0_line := by decide +kernel
  subst hsz
  have hD := hD0.self (sz := s.heap.size)
  generalize hAe : va_A (cf_W 0 h0 h1 cA k md tm al ln od) s.heap.size = A at hD hZ ⊢
  have hA : ∀ q : Nat, s.heap.size ≤ q → A q := fun q h => by rw [← hAe]; exact Or.inr h
  have hS : va_S A s.heap s.heap [] := va_S.rf
  have hl := lv_entry ([.ref h0, .int on]) (n := 3) (Nat.le_of_ble_eq_true rfl)
  rw [lg_entry_eq]
  generalize (lg_sl ([.ref h0, .int on]) ++ List.replicate (3 - (lg_sl ([.ref h0, .int on])).length) Slot.unset).toArray = ls at hl ⊢
  have hl : lv_has ls 3 [(0, .ref h0), (1, .int on)] := hl
  refine lv_aload_n hx hb dX0_line_0 rfl (lv_at hl 0 rfl) ?_
  refine va_get (D := D) (ci := 0) (v := .int ln) (C := RX0) (T := TX0) (N := 6) hx hb hts hin0 hown hK hP 0 rfl rfl 4 (by decide) (hts (.fieldLink RX0 31 "ControlFile" "lineOn" "Z") (by decide +kernel)) (fun _ h9 => h9) rfl dX0_line_1 ?_
  refine lv_istore_n (lv' := [(2, .int ln), (0, .ref h0), (1, .int on)]) hx hb dX0_line_4 rfl hl (by decide) rfl (fun ls hl => ?_)
  refine lv_aload_n hx hb dX0_line_5 rfl (lv_at hl 1 rfl) ?_
  refine lv_iload_n hx hb dX0_line_6 rfl (lv_at hl 2 rfl) ?_
  refine va_put (D := D) (ci := 0) (v := .int on) (ty := .boolean) (C := RX0) (T := TX0) (N := 6) hx hb hts hin0 tyX0 tyX0_ok nmX0 hown hK hP hD hS 0 rfl rfl 4 (by decide) (hts (.fieldLink RX0 31 "ControlFile" "lineOn" "Z") (by decide +kernel)) (fun _ h9 => h9) rfl (by decide +kernel) (by rcases hon with rfl | rfl <;> rfl) (by rcases hon with rfl | rfl <;> rfl) (Nat.le_of_ble_eq_true rfl) dX0_line_7 (fun H locs hP hD hS => ?_)
  have hP : va_P D vwCl (cf_W 0 h0 h1 cA k md tm al on od) H := hP
  have hD : va_D A (cf_W 0 h0 h1 cA k md tm al on od) := hD
  refine lv_iload_n hx hb dX0_line_10 rfl (lv_at hl 0 rfl) ?_
  exact cf_wrEndZ hx hb hr hlocks (by rcases hln with rfl | rfl <;> rfl) hP hD hK hS (rfl) (rfl) dX0_line_11
set_option maxHeartbeats 4000000 in
set_option maxRecDepth 100000 in
theorem c_putBits (l : Launch) (D : va_G) (z : Nat → Nat) (h0 h1 : Nat) (cA : ClassId) (k : Nat → Int32) (md : Int32) (tm al : Int64) (ln od : Int32) (sz : Nat) (x : Int32) (v : Int32) (b : Int32) : Met l yX0_putBits wsX0_putBits ({ frames := 0, cells := 0, slots := 0, locals := 0 } : Room) (cf_wr [.ref h0, .int x, .int v, .int b] D (cf_W 0 h0 h1 cA k md tm al ln od) [(cA, .int)] sz z) (va_Qv (fun u => u = cf_W 0 h0 h1 cA (cf_putB k x v b) md tm al ln od) (cf_B D [(cA, .int)] (va_A (cf_W 0 h0 h1 cA k md tm al ln od) sz)) (va_A (cf_W 0 h0 h1 cA k md tm al ln od) sz)) 0 0 (va_A (cf_W 0 h0 h1 cA k md tm al ln od) sz) := by
  refine Met.ofW (cc := cX0_putBits) (maxL := 4) (ret := none) (by decide) rfl ?_
  intro p e s m args below meth c s₁ B hml hv
  obtain ⟨rfl, hsz, hP, hK, hD0, hZ⟩ := hv
  have hx := B.exec
  have hb := B.bytes
  have hr := B.returns
  have hts := atoms_spec (ws := wsX0_putBits) B.pre
  have hown : s.vm.findClass RX0 = some m.cls := findClass_of_methodNamed B.named
  have hlocks := B.notSynchronized
  have hin0 : ∀ w ∈ wsX00, w ∈ wsX0_putBits := by decide +kernel
  subst hsz
  have hD := hD0.self (sz := s.heap.size)
  generalize hAe : va_A (cf_W 0 h0 h1 cA k md tm al ln od) s.heap.size = A at hD hZ ⊢
  have hA : ∀ q : Nat, s.heap.size ≤ q → A q := fun q h => by rw [← hAe]; exact Or.inr h
  have hS : va_S A s.heap s.heap [] := va_S.rf
  have hl := lv_entry ([.ref h0, .int x, .int v, .int b]) (n := 4) (Nat.le_of_ble_eq_true rfl)
  rw [lg_entry_eq]
  generalize (lg_sl ([.ref h0, .int x, .int v, .int b]) ++ List.replicate (4 - (lg_sl ([.ref h0, .int x, .int v, .int b])).length) Slot.unset).toArray = ls at hl ⊢
  have hl : lv_has ls 4 [(0, .ref h0), (1, .int x), (2, .int v), (3, .int b)] := hl
  refine lv_iload_n hx hb dX0_putBits_0 rfl (lv_at hl 1 rfl) ?_
  refine lv_if_lt (tgt := 33) hx hb dX0_putBits_1 (by decide) (fun c_1 => ?_) (fun c_1 => ?_)
  · skip
    exact cf_wrEndN hx hb hr hlocks hP hD hK hS (by simp only [cf_putB, if_pos c_1, if_neg cf_n10, if_pos cf_p00, ↓reduceIte]) dX0_putBits_33
  · skip
    refine lv_iload_n hx hb dX0_putBits_4 rfl (lv_at hl 1 rfl) ?_
    refine lv_aload_n hx hb dX0_putBits_5 rfl (lv_at hl 0 rfl) ?_
    refine va_get (D := D) (ci := 0) (v := .ref h1) (C := RX0) (T := TX0) (N := 6) hx hb hts hin0 hown hK hP 0 rfl rfl 0 (by decide) (hts (.fieldLink RX0 9 "ControlFile" "kept" "[I") (by decide +kernel)) (fun _ h9 => h9) rfl dX0_putBits_6 ?_
    refine va_alen (v := 29) hx hb hK hP 1 0 rfl rfl rfl dX0_putBits_9 ?_
    refine lv_icmp_ge (tgt := 33) hx hb dX0_putBits_10 (by decide) (fun c_2 => ?_) (fun c_2 => ?_)
    · skip
      exact cf_wrEndN hx hb hr hlocks hP hD hK hS (by simp only [cf_putB, if_neg c_1, if_pos c_2, if_neg cf_n10, if_pos cf_p00, ↓reduceIte]) dX0_putBits_33
    · skip
      refine lv_aload_n hx hb dX0_putBits_13 rfl (lv_at hl 0 rfl) ?_
      refine va_get (D := D) (ci := 0) (v := .ref h1) (C := RX0) (T := TX0) (N := 6) hx hb hts hin0 hown hK hP 0 rfl rfl 0 (by decide) (hts (.fieldLink RX0 9 "ControlFile" "kept" "[I") (by decide +kernel)) (fun _ h9 => h9) rfl dX0_putBits_14 ?_
      refine lv_iload_n hx hb dX0_putBits_17 rfl (lv_at hl 1 rfl) ?_
      refine lv_aload_n hx hb dX0_putBits_18 rfl (lv_at hl 0 rfl) ?_
      refine va_get (D := D) (ci := 0) (v := .ref h1) (C := RX0) (T := TX0) (N := 6) hx hb hts hin0 hown hK hP 0 rfl rfl 0 (by decide) (hts (.fieldLink RX0 9 "ControlFile" "kept" "[I") (by decide +kernel)) (fun _ h9 => h9) rfl dX0_putBits_19 ?_
      refine lv_iload_n hx hb dX0_putBits_22 rfl (lv_at hl 1 rfl) ?_
      refine va_iald hx hb hK hP 1 0 rfl rfl (cf_in c_1 c_2) dX0_putBits_23 ?_
      refine lv_iload_n hx hb dX0_putBits_24 rfl (lv_at hl 3 rfl) ?_
      refine lv_iconst (v := -1) hx hb dX0_putBits_25 (by decide) ?_
      refine lv_ixor hx hb dX0_putBits_26 ?_
      refine lv_iand hx hb dX0_putBits_27 ?_
      refine lv_iload_n hx hb dX0_putBits_28 rfl (lv_at hl 2 rfl) ?_
      refine lv_iload_n hx hb dX0_putBits_29 rfl (lv_at hl 3 rfl) ?_
      refine lv_iand hx hb dX0_putBits_30 ?_
      refine lv_ior hx hb dX0_putBits_31 ?_
      refine va_iast hx hb hK hP hD hS 1 0 rfl rfl (cf_in c_1 c_2) dX0_putBits_32 (fun H locs hP hD hS => ?_)
      have hP : va_P D vwCl (cf_W 0 h0 h1 cA (upd k x.toNatClampNeg (((k x.toNatClampNeg) &&& (b ^^^ (-1))) ||| (v &&& b))) md tm al ln od) H := hP
      have hD : va_D A (cf_W 0 h0 h1 cA (upd k x.toNatClampNeg (((k x.toNatClampNeg) &&& (b ^^^ (-1))) ||| (v &&& b))) md tm al ln od) := hD
      exact cf_wrEndN hx hb hr hlocks hP hD hK hS (by simp only [cf_putB, if_neg c_1, if_neg c_2, if_neg cf_n10, if_pos cf_p00, ↓reduceIte]) dX0_putBits_33
set_option maxHeartbeats 4000000 in
set_option maxRecDepth 100000 in
theorem c_put (l : Launch) (D : va_G) (z : Nat → Nat) (h0 h1 : Nat) (cA : ClassId) (k : Nat → Int32) (md : Int32) (tm al : Int64) (ln od : Int32) (sz : Nat) (x : Int32) (v : Int32) : Met l yX0_put wsX0_put ({ frames := 1, cells := 0, slots := 0, locals := 23 } : Room) (cf_wr [.ref h0, .int x, .int v] D (cf_W 0 h0 h1 cA k md tm al ln od) [(cA, .int)] sz z) (va_Qv (fun u => u = cf_W 0 h0 h1 cA (cf_put k x v) md tm al ln od) (cf_B D [(cA, .int)] (va_A (cf_W 0 h0 h1 cA k md tm al ln od) sz)) (va_A (cf_W 0 h0 h1 cA k md tm al ln od) sz)) 0 0 (va_A (cf_W 0 h0 h1 cA k md tm al ln od) sz) := by
  refine Met.ofW (cc := cX0_put) (maxL := 3) (ret := none) (by decide) rfl ?_
  intro p e s m args below meth c s₁ B hml hv
  obtain ⟨rfl, hsz, hP, hK, hD0, hZ⟩ := hv
  have hx := B.exec
  have hb := B.bytes
  have hr := B.returns
  have hts := atoms_spec (ws := wsX0_put) B.pre
  have hown : s.vm.findClass RX0 = some m.cls := findClass_of_methodNamed B.named
  have hlocks := B.notSynchronized
  have hin0 : ∀ w ∈ wsX00, w ∈ wsX0_put := by decide +kernel
  subst hsz
  have hD := hD0.self (sz := s.heap.size)
  generalize hAe : va_A (cf_W 0 h0 h1 cA k md tm al ln od) s.heap.size = A at hD hZ ⊢
  have hA : ∀ q : Nat, s.heap.size ≤ q → A q := fun q h => by rw [← hAe]; exact Or.inr h
  have hS : va_S A s.heap s.heap [] := va_S.rf
  have hl := lv_entry ([.ref h0, .int x, .int v]) (n := 3) (Nat.le_of_ble_eq_true rfl)
  rw [lg_entry_eq]
  generalize (lg_sl ([.ref h0, .int x, .int v]) ++ List.replicate (3 - (lg_sl ([.ref h0, .int x, .int v])).length) Slot.unset).toArray = ls at hl ⊢
  have hl : lv_has ls 3 [(0, .ref h0), (1, .int x), (2, .int v)] := hl
  refine lv_iload_n hx hb dX0_put_0 rfl (lv_at hl 1 rfl) ?_
  by_cases c_1 : x = 10
  · skip
    refine lv_lookup (off := 35) (tgt := 36) hx hb dX0_put_1 (by decide) (by rw [c_1]; decide) (by decide) ?_
    refine lv_aload_n hx hb dX0_put_36 rfl (lv_at hl 0 rfl) ?_
    refine lv_bipush (v := 21) hx hb dX0_put_37 (by decide) ?_
    refine lv_iload_n hx hb dX0_put_39 rfl (lv_at hl 2 rfl) ?_
    refine lv_iconst (v := 1) hx hb dX0_put_40 (by decide) ?_
    refine lv_ishl hx hb dX0_put_41 ?_
    refine lv_aload_n hx hb dX0_put_42 rfl (lv_at hl 0 rfl) ?_
    refine va_get (D := D) (ci := 0) (v := .ref h1) (C := RX0) (T := TX0) (N := 6) hx hb hts hin0 hown hK hP 0 rfl rfl 0 (by decide) (hts (.fieldLink RX0 9 "ControlFile" "kept" "[I") (by decide +kernel)) (fun _ h9 => h9) rfl dX0_put_43 ?_
    refine lv_bipush (v := 20) hx hb dX0_put_46 (by decide) ?_
    refine cf_ld 20 hx hb hK hP 1 0 rfl rfl rfl (by decide) dX0_put_48 ?_
    refine cf_wcallN (As := [.int 21, .int (v <<< ((1 : Int32) &&& 31)), .int (k 20)]) (rest := []) (wc := cf_W 0 h0 h1 cA k md tm al ln od) (wr := []) (wF := cf_W 0 h0 h1 cA (cf_putB k 21 (v <<< ((1 : Int32) &&& 31)) (k 20)) md tm al ln od) ⟨hx, hb, hml, hown, hts⟩ (c_putBits l D z h0 h1 cA k md tm al ln od s.heap.size 21 (v <<< ((1 : Int32) &&& 31)) (k 20)) (cwV 3 hts gX0_put_X0_putBits rfl rfl rfl (by decide +kernel) ⟨Nat.le_of_ble_eq_true rfl, Nat.le_of_ble_eq_true rfl⟩) hP hD hK hZ hS hA hP [0, 1] [] rfl rfl rfl rfl (by decide) (ci := 0) (q0 := 0) rfl rfl rfl rfl hl.1 rfl (Nat.le_of_ble_eq_true rfl) dX0_put_49 ⟨Nat.zero_le _, Nat.zero_le _⟩ (fun H locs hP hD hS => ?_)
    have hP : va_P D vwCl (cf_W 0 h0 h1 cA (cf_putB k 21 (v <<< ((1 : Int32) &&& 31)) (k 20)) md tm al ln od) H := hP
    have hD : va_D A (cf_W 0 h0 h1 cA (cf_putB k 21 (v <<< ((1 : Int32) &&& 31)) (k 20)) md tm al ln od) := hD
    refine lv_goto (tgt := 121) hx hb dX0_put_52 (by decide) ?_
    exact cf_wrEndN hx hb hr hlocks hP hD hK hS (by simp only [cf_put, if_pos c_1, if_neg cf_n10, if_pos cf_p00, ↓reduceIte]) dX0_put_121
  by_cases c_2 : x = 16
  · skip
    refine lv_lookup (off := 54) (tgt := 55) hx hb dX0_put_1 (by decide) (by rw [c_2]; decide) (by decide) ?_
    refine lv_aload_n hx hb dX0_put_55 rfl (lv_at hl 0 rfl) ?_
    refine lv_bipush (v := 24) hx hb dX0_put_56 (by decide) ?_
    refine lv_iload_n hx hb dX0_put_58 rfl (lv_at hl 2 rfl) ?_
    refine lv_iconst (v := 1) hx hb dX0_put_59 (by decide) ?_
    refine lv_ishl hx hb dX0_put_60 ?_
    refine lv_iconst (v := 4) hx hb dX0_put_61 (by decide) ?_
    refine lv_aload_n hx hb dX0_put_62 rfl (lv_at hl 0 rfl) ?_
    refine va_get (D := D) (ci := 0) (v := .ref h1) (C := RX0) (T := TX0) (N := 6) hx hb hts hin0 hown hK hP 0 rfl rfl 0 (by decide) (hts (.fieldLink RX0 9 "ControlFile" "kept" "[I") (by decide +kernel)) (fun _ h9 => h9) rfl dX0_put_63 ?_
    refine lv_bipush (v := 20) hx hb dX0_put_66 (by decide) ?_
    refine cf_ld 20 hx hb hK hP 1 0 rfl rfl rfl (by decide) dX0_put_68 ?_
    refine lv_iand hx hb dX0_put_69 ?_
    refine cf_wcallN (As := [.int 24, .int (v <<< ((1 : Int32) &&& 31)), .int (4 &&& (k 20))]) (rest := []) (wc := cf_W 0 h0 h1 cA k md tm al ln od) (wr := []) (wF := cf_W 0 h0 h1 cA (cf_putB k 24 (v <<< ((1 : Int32) &&& 31)) (4 &&& (k 20))) md tm al ln od) ⟨hx, hb, hml, hown, hts⟩ (c_putBits l D z h0 h1 cA k md tm al ln od s.heap.size 24 (v <<< ((1 : Int32) &&& 31)) (4 &&& (k 20))) (cwV 3 hts gX0_put_X0_putBits rfl rfl rfl (by decide +kernel) ⟨Nat.le_of_ble_eq_true rfl, Nat.le_of_ble_eq_true rfl⟩) hP hD hK hZ hS hA hP [0, 1] [] rfl rfl rfl rfl (by decide) (ci := 0) (q0 := 0) rfl rfl rfl rfl hl.1 rfl (Nat.le_of_ble_eq_true rfl) dX0_put_70 ⟨Nat.zero_le _, Nat.zero_le _⟩ (fun H locs hP hD hS => ?_)
    have hP : va_P D vwCl (cf_W 0 h0 h1 cA (cf_putB k 24 (v <<< ((1 : Int32) &&& 31)) (4 &&& (k 20))) md tm al ln od) H := hP
    have hD : va_D A (cf_W 0 h0 h1 cA (cf_putB k 24 (v <<< ((1 : Int32) &&& 31)) (4 &&& (k 20))) md tm al ln od) := hD
    refine lv_goto (tgt := 121) hx hb dX0_put_73 (by decide) ?_
    exact cf_wrEndN hx hb hr hlocks hP hD hK hS (by simp only [cf_put, if_neg c_1, if_pos c_2, if_neg cf_n10, if_pos cf_p00, ↓reduceIte]) dX0_put_121
  by_cases c_3 : x = 23
  · skip
    refine lv_lookup (off := 75) (tgt := 76) hx hb dX0_put_1 (by decide) (by rw [c_3]; decide) (by decide) ?_
    refine lv_aload_n hx hb dX0_put_76 rfl (lv_at hl 0 rfl) ?_
    refine lv_bipush (v := 24) hx hb dX0_put_77 (by decide) ?_
    refine lv_iload_n hx hb dX0_put_79 rfl (lv_at hl 2 rfl) ?_
    refine lv_iconst (v := 4) hx hb dX0_put_80 (by decide) ?_
    refine cf_wcallN (As := [.int 24, .int v, .int 4]) (rest := []) (wc := cf_W 0 h0 h1 cA k md tm al ln od) (wr := []) (wF := cf_W 0 h0 h1 cA (cf_putB k 24 v 4) md tm al ln od) ⟨hx, hb, hml, hown, hts⟩ (c_putBits l D z h0 h1 cA k md tm al ln od s.heap.size 24 v 4) (cwV 3 hts gX0_put_X0_putBits rfl rfl rfl (by decide +kernel) ⟨Nat.le_of_ble_eq_true rfl, Nat.le_of_ble_eq_true rfl⟩) hP hD hK hZ hS hA hP [0, 1] [] rfl rfl rfl rfl (by decide) (ci := 0) (q0 := 0) rfl rfl rfl rfl hl.1 rfl (Nat.le_of_ble_eq_true rfl) dX0_put_81 ⟨Nat.zero_le _, Nat.zero_le _⟩ (fun H locs hP hD hS => ?_)
    have hP : va_P D vwCl (cf_W 0 h0 h1 cA (cf_putB k 24 v 4) md tm al ln od) H := hP
    have hD : va_D A (cf_W 0 h0 h1 cA (cf_putB k 24 v 4) md tm al ln od) := hD
    refine lv_goto (tgt := 121) hx hb dX0_put_84 (by decide) ?_
    exact cf_wrEndN hx hb hr hlocks hP hD hK hS (by simp only [cf_put, if_neg c_1, if_neg c_2, if_pos c_3, if_neg cf_n10, if_pos cf_p00, ↓reduceIte]) dX0_put_121
  refine lv_lookup (off := 86) (tgt := 87) hx hb dX0_put_1 (by decide) (show Op.lookupswitch.offset [(10, 35), (16, 54), (23, 75)] 86 (x).toInt = 86 by rw [Op.lookupswitch.offset_cons, if_neg (cf_ne (a := 10) (by decide) c_1), Op.lookupswitch.offset_cons, if_neg (cf_ne (a := 16) (by decide) c_2), Op.lookupswitch.offset_cons, if_neg (cf_ne (a := 23) (by decide) c_3), Op.lookupswitch.offset_nil]) (by decide) ?_
  refine lv_iload_n hx hb dX0_put_87 rfl (lv_at hl 1 rfl) ?_
  refine lv_if_lt (tgt := 121) hx hb dX0_put_88 (by decide) (fun c_4 => ?_) (fun c_4 => ?_)
  · skip
    exact cf_wrEndN hx hb hr hlocks hP hD hK hS (by simp only [cf_put, if_neg c_1, if_neg c_2, if_neg c_3, if_pos c_4, if_neg cf_n10, if_pos cf_p00, ↓reduceIte]) dX0_put_121
  · skip
    refine lv_iload_n hx hb dX0_put_91 rfl (lv_at hl 1 rfl) ?_
    refine lv_aload_n hx hb dX0_put_92 rfl (lv_at hl 0 rfl) ?_
    refine va_get (D := D) (ci := 0) (v := .ref h1) (C := RX0) (T := TX0) (N := 6) hx hb hts hin0 hown hK hP 0 rfl rfl 0 (by decide) (hts (.fieldLink RX0 9 "ControlFile" "kept" "[I") (by decide +kernel)) (fun _ h9 => h9) rfl dX0_put_93 ?_
    refine va_alen (v := 29) hx hb hK hP 1 0 rfl rfl rfl dX0_put_96 ?_
    refine lv_icmp_ge (tgt := 121) hx hb dX0_put_97 (by decide) (fun c_5 => ?_) (fun c_5 => ?_)
    · skip
      exact cf_wrEndN hx hb hr hlocks hP hD hK hS (by simp only [cf_put, if_neg c_1, if_neg c_2, if_neg c_3, if_neg c_4, if_pos c_5, if_neg cf_n10, if_pos cf_p00, ↓reduceIte]) dX0_put_121
    · skip
      refine lv_iload_n hx hb dX0_put_100 rfl (lv_at hl 1 rfl) ?_
      refine va_gets (C := RX0) (ref := RX0) hx hb hZ.2.1.1 hS hown (hts (.fieldLink RX0 91 "ControlFile" "KEEPS" "[I") (by decide +kernel)) (fun _ h9 => h9) dX0_put_101 ?_
      refine va_tlen (v := 29) hx hb hZ.2.1.2 hS rfl dX0_put_104 ?_
      refine lv_icmp_ge (tgt := 121) hx hb dX0_put_105 (by decide) (fun c_6 => ?_) (fun c_6 => ?_)
      · skip
        exact absurd c_6 c_5
      · skip
        refine lv_aload_n hx hb dX0_put_108 rfl (lv_at hl 0 rfl) ?_
        refine va_get (D := D) (ci := 0) (v := .ref h1) (C := RX0) (T := TX0) (N := 6) hx hb hts hin0 hown hK hP 0 rfl rfl 0 (by decide) (hts (.fieldLink RX0 9 "ControlFile" "kept" "[I") (by decide +kernel)) (fun _ h9 => h9) rfl dX0_put_109 ?_
        refine lv_iload_n hx hb dX0_put_112 rfl (lv_at hl 1 rfl) ?_
        refine lv_iload_n hx hb dX0_put_113 rfl (lv_at hl 2 rfl) ?_
        refine va_gets (C := RX0) (ref := RX0) hx hb hZ.2.1.1 hS hown (hts (.fieldLink RX0 91 "ControlFile" "KEEPS" "[I") (by decide +kernel)) (fun _ h9 => h9) dX0_put_114 ?_
        refine lv_iload_n hx hb dX0_put_117 rfl (lv_at hl 1 rfl) ?_
        refine va_ti (v := .int (cf_keep x.toNatClampNeg)) hx hb hZ.2.1.2 hS (cf_in c_4 c_6) rfl dX0_put_118 ?_
        refine lv_iand hx hb dX0_put_119 ?_
        refine va_iast hx hb hK hP hD hS 1 0 rfl rfl (cf_in c_4 c_6) dX0_put_120 (fun H locs hP hD hS => ?_)
        have hP : va_P D vwCl (cf_W 0 h0 h1 cA (upd k x.toNatClampNeg (v &&& (cf_keep x.toNatClampNeg))) md tm al ln od) H := hP
        have hD : va_D A (cf_W 0 h0 h1 cA (upd k x.toNatClampNeg (v &&& (cf_keep x.toNatClampNeg))) md tm al ln od) := hD
        exact cf_wrEndN hx hb hr hlocks hP hD hK hS (by simp only [cf_put, if_neg c_1, if_neg c_2, if_neg c_3, if_neg c_4, if_neg c_5, if_neg c_6, if_neg cf_n10, if_pos cf_p00, ↓reduceIte]) dX0_put_121
set_option maxHeartbeats 4000000 in
set_option maxRecDepth 100000 in
theorem c_access (l : Launch) (D : va_G) (z : Nat → Nat) (h0 h1 : Nat) (cA : ClassId) (k : Nat → Int32) (md : Int32) (tm al : Int64) (ln od : Int32) (sz : Nat) (n : Int32) (kd : Int32) (v : Int32) : Met l yX0_access wsX0_access ({ frames := 2, cells := 0, slots := 0, locals := 45 } : Room) (cf_wr [.ref h0, .int n, .int kd, .int v] D (cf_W 0 h0 h1 cA k md tm al ln od) [(cA, .int)] sz z) (va_Qi (fun r u => r = cf_accR k md n kd ∧ u = cf_W 0 h0 h1 cA (cf_accK k md tm al ln n kd v) md tm al ln (cf_accO k md tm al ln od n kd)) (cf_B D [(cA, .int)] (va_A (cf_W 0 h0 h1 cA k md tm al ln od) sz)) (va_A (cf_W 0 h0 h1 cA k md tm al ln od) sz)) 0 0 (va_A (cf_W 0 h0 h1 cA k md tm al ln od) sz) := by
  refine Met.ofW (cc := cX0_access) (maxL := 8) (ret := (some .int)) (by decide) rfl ?_
  intro p e s m args below meth c s₁ B hml hv
  obtain ⟨rfl, hsz, hP, hK, hD0, hZ⟩ := hv
  have hx := B.exec
  have hb := B.bytes
  have hr := B.returns
  have hts := atoms_spec (ws := wsX0_access) B.pre
  have hown : s.vm.findClass RX0 = some m.cls := findClass_of_methodNamed B.named
  have hlocks := B.notSynchronized
  have hin0 : ∀ w ∈ wsX00, w ∈ wsX0_access := by decide +kernel
  subst hsz
  have hD := hD0.self (sz := s.heap.size)
  generalize hAe : va_A (cf_W 0 h0 h1 cA k md tm al ln od) s.heap.size = A at hD hZ ⊢
  have hA : ∀ q : Nat, s.heap.size ≤ q → A q := fun q h => by rw [← hAe]; exact Or.inr h
  have hS : va_S A s.heap s.heap [] := va_S.rf
  have hl := lv_entry ([.ref h0, .int n, .int kd, .int v]) (n := 8) (Nat.le_of_ble_eq_true rfl)
  rw [lg_entry_eq]
  generalize (lg_sl ([.ref h0, .int n, .int kd, .int v]) ++ List.replicate (8 - (lg_sl ([.ref h0, .int n, .int kd, .int v])).length) Slot.unset).toArray = ls at hl ⊢
  have hl : lv_has ls 8 [(0, .ref h0), (1, .int n), (2, .int kd), (3, .int v)] := hl
  refine lv_iload_n hx hb dX0_access_0 rfl (lv_at hl 2 rfl) ?_
  refine lv_if_lt (tgt := 9) hx hb dX0_access_1 (by decide) (fun c_1 => ?_) (fun c_1 => ?_)
  · skip
    refine lv_iconst (v := -1) hx hb dX0_access_9 (by decide) ?_
    exact cf_wrEnd hx hb hr hlocks hP hD hK hS (by simp only [cf_accR, cf_accO, cf_accK, cf_bit, cf_at, if_pos c_1, if_neg cf_n10, if_pos cf_p00, ↓reduceIte]) (by simp only [cf_accR, cf_accO, cf_accK, cf_bit, cf_at, if_pos c_1, if_neg cf_n10, if_pos cf_p00, ↓reduceIte]) dX0_access_10
  · skip
    refine lv_iload_n hx hb dX0_access_4 rfl (lv_at hl 2 rfl) ?_
    refine lv_iconst (v := 3) hx hb dX0_access_5 (by decide) ?_
    refine lv_icmp_le (tgt := 11) hx hb dX0_access_6 (by decide) (fun c_2 => ?_) (fun c_2 => ?_)
    · skip
      refine lv_iload_n hx hb dX0_access_11 rfl (lv_at hl 1 rfl) ?_
      refine cf_callS (As := [.int n]) (rest := []) ⟨hx, hb, hml, hown, hts⟩ (c_slotOf l D z n) (va_cwS 1 hts gX0_access_X0_slotOf rfl rfl rfl (by decide +kernel) ⟨Nat.le_of_ble_eq_true rfl, Nat.le_of_ble_eq_true rfl⟩) (hP.sub (ws' := []) [] rfl) (hK.sub (tys' := []) [] rfl) hZ hS rfl hl.1 rfl (Nat.le_of_ble_eq_true rfl) dX0_access_12 ⟨Nat.zero_le _, Nat.zero_le _⟩ ?_
      refine lv_istore (lv' := [(4, .int (cf_slot n)), (0, .ref h0), (1, .int n), (2, .int kd), (3, .int v)]) hx hb dX0_access_15 hl (by decide) rfl (fun ls hl => ?_)
      refine lv_aload_n hx hb dX0_access_17 rfl (lv_at hl 1 rfl) ?_
      refine lv_iload hx hb dX0_access_18 (lv_at hl 0 rfl) ?_
      refine lv_iload_n hx hb dX0_access_20 rfl (lv_at hl 3 rfl) ?_
      refine lv_if_eq (tgt := 28) hx hb dX0_access_21 (by decide) (fun c_3 => ?_) (fun c_3 => ?_)
      · skip
        refine lv_iconst (v := 0) hx hb dX0_access_28 (by decide) ?_
        refine cf_callV (As := [.int (cf_slot n), .int 0]) (rest := []) ⟨hx, hb, hml, hown, hts⟩ (c_permission l D z h0 h1 cA k md tm al ln od (cf_slot n) 0) (cwV 2 hts gX0_access_X0_permission rfl rfl rfl (by decide +kernel) ⟨Nat.le_of_ble_eq_true rfl, Nat.le_of_ble_eq_true rfl⟩) hP hK hZ hS (ci := 0) (q0 := 0) rfl rfl rfl rfl hl.1 rfl (Nat.le_of_ble_eq_true rfl) dX0_access_29 ⟨Nat.zero_le _, Nat.zero_le _⟩ ?_
        refine lv_istore (lv' := [(5, .int (cf_perm k md (cf_slot n) 0)), (4, .int (cf_slot n)), (0, .ref h0), (1, .int n), (2, .int kd), (3, .int v)]) hx hb dX0_access_32 hl (by decide) rfl (fun ls hl => ?_)
        refine lv_iload hx hb dX0_access_34 (lv_at hl 0 rfl) ?_
        refine lv_if_eq (tgt := 42) hx hb dX0_access_36 (by decide) (fun c_4 => ?_) (fun c_4 => ?_)
        · skip
          refine lv_aload_n hx hb dX0_access_42 rfl (lv_at hl 2 rfl) ?_
          refine va_get (D := D) (ci := 0) (v := .int md) (C := RX0) (T := TX0) (N := 6) hx hb hts hin0 hown hK hP 0 rfl rfl 1 (by decide) (hts (.fieldLink RX0 16 "ControlFile" "modeNow" "I") (by decide +kernel)) (fun _ h9 => h9) rfl dX0_access_43 ?_
          refine lv_iconst (v := 3) hx hb dX0_access_46 (by decide) ?_
          refine lv_icmp_ne (tgt := 66) hx hb dX0_access_47 (by decide) (fun c_5 => ?_) (fun c_5 => ?_)
          · skip
            refine lv_iload hx hb dX0_access_66 (lv_at hl 1 rfl) ?_
            refine lv_istore (lv' := [(6, .int (cf_slot n)), (5, .int (cf_perm k md (cf_slot n) 0)), (4, .int (cf_slot n)), (0, .ref h0), (1, .int n), (2, .int kd), (3, .int v)]) hx hb dX0_access_68 hl (by decide) rfl (fun ls hl => ?_)
            refine lv_aload_n hx hb dX0_access_70 rfl (lv_at hl 3 rfl) ?_
            refine lv_iload hx hb dX0_access_71 (lv_at hl 0 rfl) ?_
            refine cf_callV (As := [.int (cf_slot n)]) (rest := []) ⟨hx, hb, hml, hown, hts⟩ (c_told l D z h0 h1 cA k md tm al ln od (cf_slot n)) (cwV 1 hts gX0_access_X0_told rfl rfl rfl (by decide +kernel) ⟨Nat.le_of_ble_eq_true rfl, Nat.le_of_ble_eq_true rfl⟩) hP hK hZ hS (ci := 0) (q0 := 0) rfl rfl rfl rfl hl.1 rfl (Nat.le_of_ble_eq_true rfl) dX0_access_73 ⟨Nat.zero_le _, Nat.zero_le _⟩ ?_
            refine lv_istore (lv' := [(7, .int (cf_told k tm al ln (cf_slot n))), (6, .int (cf_slot n)), (5, .int (cf_perm k md (cf_slot n) 0)), (4, .int (cf_slot n)), (0, .ref h0), (1, .int n), (2, .int kd), (3, .int v)]) hx hb dX0_access_76 hl (by decide) rfl (fun ls hl => ?_)
            refine lv_iload_n hx hb dX0_access_78 rfl (lv_at hl 6 rfl) ?_
            refine lv_if_eq (tgt := 95) hx hb dX0_access_79 (by decide) (fun c_6 => ?_) (fun c_6 => ?_)
            · skip
              refine lv_aload_n hx hb dX0_access_95 rfl (lv_at hl 4 rfl) ?_
              refine lv_iload hx hb dX0_access_96 (lv_at hl 0 rfl) ?_
              refine va_put (D := D) (ci := 0) (v := .int (cf_told k tm al ln (cf_slot n))) (ty := .int) (C := RX0) (T := TX0) (N := 6) hx hb hts hin0 tyX0 tyX0_ok nmX0 hown hK hP hD hS 0 rfl rfl 5 (by decide) (hts (.fieldLink RX0 58 "ControlFile" "oldValue" "I") (by decide +kernel)) (fun _ h9 => h9) rfl (by decide +kernel) rfl rfl (Nat.le_of_ble_eq_true rfl) dX0_access_98 (fun H locs hP hD hS => ?_)
              have hP : va_P D vwCl (cf_W 0 h0 h1 cA k md tm al ln (cf_told k tm al ln (cf_slot n))) H := hP
              have hD : va_D A (cf_W 0 h0 h1 cA k md tm al ln (cf_told k tm al ln (cf_slot n))) := hD
              refine lv_iconst (v := 0) hx hb dX0_access_101 (by decide) ?_
              exact cf_wrEnd hx hb hr hlocks hP hD hK hS (by simp only [cf_accR, cf_accO, cf_accK, cf_bit, cf_at, if_neg c_1, if_pos c_2, if_pos c_3, if_pos c_4, if_neg c_5, if_pos c_6, if_neg cf_n10, if_pos cf_p00, ↓reduceIte]) (by simp only [cf_accR, cf_accO, cf_accK, cf_bit, cf_at, if_neg c_1, if_pos c_2, if_pos c_3, if_pos c_4, if_neg c_5, if_pos c_6, if_neg cf_n10, if_pos cf_p00, ↓reduceIte]) dX0_access_102
            · skip
              exact absurd c_3 c_6
          · skip
            refine lv_iload hx hb dX0_access_50 (lv_at hl 1 rfl) ?_
            refine cf_callS (As := [.int (cf_slot n)]) (rest := []) ⟨hx, hb, hml, hown, hts⟩ (c_isOfS l D z (cf_slot n)) (va_cwS 1 hts gX0_access_X0_isOfS rfl rfl rfl (by decide +kernel) ⟨Nat.le_of_ble_eq_true rfl, Nat.le_of_ble_eq_true rfl⟩) (hP.sub (ws' := []) [] rfl) (hK.sub (tys' := []) [] rfl) hZ hS rfl hl.1 rfl (Nat.le_of_ble_eq_true rfl) dX0_access_52 ⟨Nat.zero_le _, Nat.zero_le _⟩ ?_
            refine lv_if_eq (tgt := 66) hx hb dX0_access_55 (by decide) (fun c_7 => ?_) (fun c_7 => ?_)
            · skip
              refine lv_iload hx hb dX0_access_66 (lv_at hl 1 rfl) ?_
              refine lv_istore (lv' := [(6, .int (cf_slot n)), (5, .int (cf_perm k md (cf_slot n) 0)), (4, .int (cf_slot n)), (0, .ref h0), (1, .int n), (2, .int kd), (3, .int v)]) hx hb dX0_access_68 hl (by decide) rfl (fun ls hl => ?_)
              refine lv_aload_n hx hb dX0_access_70 rfl (lv_at hl 3 rfl) ?_
              refine lv_iload hx hb dX0_access_71 (lv_at hl 0 rfl) ?_
              refine cf_callV (As := [.int (cf_slot n)]) (rest := []) ⟨hx, hb, hml, hown, hts⟩ (c_told l D z h0 h1 cA k md tm al ln od (cf_slot n)) (cwV 1 hts gX0_access_X0_told rfl rfl rfl (by decide +kernel) ⟨Nat.le_of_ble_eq_true rfl, Nat.le_of_ble_eq_true rfl⟩) hP hK hZ hS (ci := 0) (q0 := 0) rfl rfl rfl rfl hl.1 rfl (Nat.le_of_ble_eq_true rfl) dX0_access_73 ⟨Nat.zero_le _, Nat.zero_le _⟩ ?_
              refine lv_istore (lv' := [(7, .int (cf_told k tm al ln (cf_slot n))), (6, .int (cf_slot n)), (5, .int (cf_perm k md (cf_slot n) 0)), (4, .int (cf_slot n)), (0, .ref h0), (1, .int n), (2, .int kd), (3, .int v)]) hx hb dX0_access_76 hl (by decide) rfl (fun ls hl => ?_)
              refine lv_iload_n hx hb dX0_access_78 rfl (lv_at hl 6 rfl) ?_
              refine lv_if_eq (tgt := 95) hx hb dX0_access_79 (by decide) (fun c_8 => ?_) (fun c_8 => ?_)
              · skip
                refine lv_aload_n hx hb dX0_access_95 rfl (lv_at hl 4 rfl) ?_
                refine lv_iload hx hb dX0_access_96 (lv_at hl 0 rfl) ?_
                refine va_put (D := D) (ci := 0) (v := .int (cf_told k tm al ln (cf_slot n))) (ty := .int) (C := RX0) (T := TX0) (N := 6) hx hb hts hin0 tyX0 tyX0_ok nmX0 hown hK hP hD hS 0 rfl rfl 5 (by decide) (hts (.fieldLink RX0 58 "ControlFile" "oldValue" "I") (by decide +kernel)) (fun _ h9 => h9) rfl (by decide +kernel) rfl rfl (Nat.le_of_ble_eq_true rfl) dX0_access_98 (fun H locs hP hD hS => ?_)
                have hP : va_P D vwCl (cf_W 0 h0 h1 cA k md tm al ln (cf_told k tm al ln (cf_slot n))) H := hP
                have hD : va_D A (cf_W 0 h0 h1 cA k md tm al ln (cf_told k tm al ln (cf_slot n))) := hD
                refine lv_iconst (v := 0) hx hb dX0_access_101 (by decide) ?_
                exact cf_wrEnd hx hb hr hlocks hP hD hK hS (by simp only [cf_accR, cf_accO, cf_accK, cf_bit, cf_at, if_neg c_1, if_pos c_2, if_pos c_3, if_pos c_4, if_pos c_5, if_pos c_7, if_pos c_8, if_neg cf_n10, if_pos cf_p00, ↓reduceIte]) (by simp only [cf_accR, cf_accO, cf_accK, cf_bit, cf_at, if_neg c_1, if_pos c_2, if_pos c_3, if_pos c_4, if_pos c_5, if_pos c_7, if_pos c_8, if_neg cf_n10, if_pos cf_p00, ↓reduceIte]) dX0_access_102
              · skip
                exact absurd c_3 c_8
            · skip
              refine lv_iload hx hb dX0_access_58 (lv_at hl 1 rfl) ?_
              refine lv_bipush (v := 9) hx hb dX0_access_60 (by decide) ?_
              refine lv_iadd hx hb dX0_access_62 ?_
              refine lv_goto (tgt := 68) hx hb dX0_access_63 (by decide) ?_
              refine lv_istore (lv' := [(6, .int ((cf_slot n) + 9)), (5, .int (cf_perm k md (cf_slot n) 0)), (4, .int (cf_slot n)), (0, .ref h0), (1, .int n), (2, .int kd), (3, .int v)]) hx hb dX0_access_68 hl (by decide) rfl (fun ls hl => ?_)
              refine lv_aload_n hx hb dX0_access_70 rfl (lv_at hl 3 rfl) ?_
              refine lv_iload hx hb dX0_access_71 (lv_at hl 0 rfl) ?_
              refine cf_callV (As := [.int ((cf_slot n) + 9)]) (rest := []) ⟨hx, hb, hml, hown, hts⟩ (c_told l D z h0 h1 cA k md tm al ln od ((cf_slot n) + 9)) (cwV 1 hts gX0_access_X0_told rfl rfl rfl (by decide +kernel) ⟨Nat.le_of_ble_eq_true rfl, Nat.le_of_ble_eq_true rfl⟩) hP hK hZ hS (ci := 0) (q0 := 0) rfl rfl rfl rfl hl.1 rfl (Nat.le_of_ble_eq_true rfl) dX0_access_73 ⟨Nat.zero_le _, Nat.zero_le _⟩ ?_
              refine lv_istore (lv' := [(7, .int (cf_told k tm al ln ((cf_slot n) + 9))), (6, .int ((cf_slot n) + 9)), (5, .int (cf_perm k md (cf_slot n) 0)), (4, .int (cf_slot n)), (0, .ref h0), (1, .int n), (2, .int kd), (3, .int v)]) hx hb dX0_access_76 hl (by decide) rfl (fun ls hl => ?_)
              refine lv_iload_n hx hb dX0_access_78 rfl (lv_at hl 6 rfl) ?_
              refine lv_if_eq (tgt := 95) hx hb dX0_access_79 (by decide) (fun c_9 => ?_) (fun c_9 => ?_)
              · skip
                refine lv_aload_n hx hb dX0_access_95 rfl (lv_at hl 4 rfl) ?_
                refine lv_iload hx hb dX0_access_96 (lv_at hl 0 rfl) ?_
                refine va_put (D := D) (ci := 0) (v := .int (cf_told k tm al ln ((cf_slot n) + 9))) (ty := .int) (C := RX0) (T := TX0) (N := 6) hx hb hts hin0 tyX0 tyX0_ok nmX0 hown hK hP hD hS 0 rfl rfl 5 (by decide) (hts (.fieldLink RX0 58 "ControlFile" "oldValue" "I") (by decide +kernel)) (fun _ h9 => h9) rfl (by decide +kernel) rfl rfl (Nat.le_of_ble_eq_true rfl) dX0_access_98 (fun H locs hP hD hS => ?_)
                have hP : va_P D vwCl (cf_W 0 h0 h1 cA k md tm al ln (cf_told k tm al ln ((cf_slot n) + 9))) H := hP
                have hD : va_D A (cf_W 0 h0 h1 cA k md tm al ln (cf_told k tm al ln ((cf_slot n) + 9))) := hD
                refine lv_iconst (v := 0) hx hb dX0_access_101 (by decide) ?_
                exact cf_wrEnd hx hb hr hlocks hP hD hK hS (by simp only [cf_accR, cf_accO, cf_accK, cf_bit, cf_at, if_neg c_1, if_pos c_2, if_pos c_3, if_pos c_4, if_pos c_5, if_neg c_7, if_pos c_9, if_neg cf_n10, if_pos cf_p00, ↓reduceIte]) (by simp only [cf_accR, cf_accO, cf_accK, cf_bit, cf_at, if_neg c_1, if_pos c_2, if_pos c_3, if_pos c_4, if_pos c_5, if_neg c_7, if_pos c_9, if_neg cf_n10, if_pos cf_p00, ↓reduceIte]) dX0_access_102
              · skip
                exact absurd c_3 c_9
        · skip
          refine lv_iload hx hb dX0_access_39 (lv_at hl 0 rfl) ?_
          exact cf_wrEnd hx hb hr hlocks hP hD hK hS (by simp only [cf_accR, cf_accO, cf_accK, cf_bit, cf_at, if_neg c_1, if_pos c_2, if_pos c_3, if_neg c_4, if_neg cf_n10, if_pos cf_p00, ↓reduceIte]) (by simp only [cf_accR, cf_accO, cf_accK, cf_bit, cf_at, if_neg c_1, if_pos c_2, if_pos c_3, if_neg c_4, if_neg cf_n10, if_pos cf_p00, ↓reduceIte]) dX0_access_41
      · skip
        refine lv_iconst (v := 1) hx hb dX0_access_24 (by decide) ?_
        refine lv_goto (tgt := 29) hx hb dX0_access_25 (by decide) ?_
        refine cf_callV (As := [.int (cf_slot n), .int 1]) (rest := []) ⟨hx, hb, hml, hown, hts⟩ (c_permission l D z h0 h1 cA k md tm al ln od (cf_slot n) 1) (cwV 2 hts gX0_access_X0_permission rfl rfl rfl (by decide +kernel) ⟨Nat.le_of_ble_eq_true rfl, Nat.le_of_ble_eq_true rfl⟩) hP hK hZ hS (ci := 0) (q0 := 0) rfl rfl rfl rfl hl.1 rfl (Nat.le_of_ble_eq_true rfl) dX0_access_29 ⟨Nat.zero_le _, Nat.zero_le _⟩ ?_
        refine lv_istore (lv' := [(5, .int (cf_perm k md (cf_slot n) 1)), (4, .int (cf_slot n)), (0, .ref h0), (1, .int n), (2, .int kd), (3, .int v)]) hx hb dX0_access_32 hl (by decide) rfl (fun ls hl => ?_)
        refine lv_iload hx hb dX0_access_34 (lv_at hl 0 rfl) ?_
        refine lv_if_eq (tgt := 42) hx hb dX0_access_36 (by decide) (fun c_10 => ?_) (fun c_10 => ?_)
        · skip
          refine lv_aload_n hx hb dX0_access_42 rfl (lv_at hl 2 rfl) ?_
          refine va_get (D := D) (ci := 0) (v := .int md) (C := RX0) (T := TX0) (N := 6) hx hb hts hin0 hown hK hP 0 rfl rfl 1 (by decide) (hts (.fieldLink RX0 16 "ControlFile" "modeNow" "I") (by decide +kernel)) (fun _ h9 => h9) rfl dX0_access_43 ?_
          refine lv_iconst (v := 3) hx hb dX0_access_46 (by decide) ?_
          refine lv_icmp_ne (tgt := 66) hx hb dX0_access_47 (by decide) (fun c_11 => ?_) (fun c_11 => ?_)
          · skip
            refine lv_iload hx hb dX0_access_66 (lv_at hl 1 rfl) ?_
            refine lv_istore (lv' := [(6, .int (cf_slot n)), (5, .int (cf_perm k md (cf_slot n) 1)), (4, .int (cf_slot n)), (0, .ref h0), (1, .int n), (2, .int kd), (3, .int v)]) hx hb dX0_access_68 hl (by decide) rfl (fun ls hl => ?_)
            refine lv_aload_n hx hb dX0_access_70 rfl (lv_at hl 3 rfl) ?_
            refine lv_iload hx hb dX0_access_71 (lv_at hl 0 rfl) ?_
            refine cf_callV (As := [.int (cf_slot n)]) (rest := []) ⟨hx, hb, hml, hown, hts⟩ (c_told l D z h0 h1 cA k md tm al ln od (cf_slot n)) (cwV 1 hts gX0_access_X0_told rfl rfl rfl (by decide +kernel) ⟨Nat.le_of_ble_eq_true rfl, Nat.le_of_ble_eq_true rfl⟩) hP hK hZ hS (ci := 0) (q0 := 0) rfl rfl rfl rfl hl.1 rfl (Nat.le_of_ble_eq_true rfl) dX0_access_73 ⟨Nat.zero_le _, Nat.zero_le _⟩ ?_
            refine lv_istore (lv' := [(7, .int (cf_told k tm al ln (cf_slot n))), (6, .int (cf_slot n)), (5, .int (cf_perm k md (cf_slot n) 1)), (4, .int (cf_slot n)), (0, .ref h0), (1, .int n), (2, .int kd), (3, .int v)]) hx hb dX0_access_76 hl (by decide) rfl (fun ls hl => ?_)
            refine lv_iload_n hx hb dX0_access_78 rfl (lv_at hl 6 rfl) ?_
            refine lv_if_eq (tgt := 95) hx hb dX0_access_79 (by decide) (fun c_12 => ?_) (fun c_12 => ?_)
            · skip
              exact absurd c_12 c_3
            · skip
              refine lv_aload_n hx hb dX0_access_82 rfl (lv_at hl 4 rfl) ?_
              refine lv_iload hx hb dX0_access_83 (lv_at hl 1 rfl) ?_
              refine lv_iload hx hb dX0_access_85 (lv_at hl 0 rfl) ?_
              refine lv_iload_n hx hb dX0_access_87 rfl (lv_at hl 6 rfl) ?_
              refine lv_iload_n hx hb dX0_access_88 rfl (lv_at hl 7 rfl) ?_
              refine cf_callS (As := [.int (cf_told k tm al ln (cf_slot n)), .int kd, .int v]) (rest := [.int (cf_slot n), .ref h0]) ⟨hx, hb, hml, hown, hts⟩ (c_written l D z (cf_told k tm al ln (cf_slot n)) kd v) (va_cwS 3 hts gX0_access_X0_written rfl rfl rfl (by decide +kernel) ⟨Nat.le_of_ble_eq_true rfl, Nat.le_of_ble_eq_true rfl⟩) (hP.sub (ws' := []) [] rfl) (hK.sub (tys' := []) [] rfl) hZ hS rfl hl.1 rfl (Nat.le_of_ble_eq_true rfl) dX0_access_89 ⟨Nat.zero_le _, Nat.zero_le _⟩ ?_
              refine cf_wcallN (As := [.int (cf_slot n), .int (cf_wrt (cf_told k tm al ln (cf_slot n)) kd v)]) (rest := []) (wc := cf_W 0 h0 h1 cA k md tm al ln od) (wr := []) (wF := cf_W 0 h0 h1 cA (cf_put k (cf_slot n) (cf_wrt (cf_told k tm al ln (cf_slot n)) kd v)) md tm al ln od) ⟨hx, hb, hml, hown, hts⟩ (c_put l D z h0 h1 cA k md tm al ln od s.heap.size (cf_slot n) (cf_wrt (cf_told k tm al ln (cf_slot n)) kd v)) (cwV 2 hts gX0_access_X0_put rfl rfl rfl (by decide +kernel) ⟨Nat.le_of_ble_eq_true rfl, Nat.le_of_ble_eq_true rfl⟩) hP hD hK hZ hS hA hP [0, 1] [] rfl rfl rfl rfl (by decide) (ci := 0) (q0 := 0) rfl rfl rfl rfl hl.1 rfl (Nat.le_of_ble_eq_true rfl) dX0_access_92 ⟨Nat.zero_le _, Nat.zero_le _⟩ (fun H locs hP hD hS => ?_)
              have hP : va_P D vwCl (cf_W 0 h0 h1 cA (cf_put k (cf_slot n) (cf_wrt (cf_told k tm al ln (cf_slot n)) kd v)) md tm al ln od) H := hP
              have hD : va_D A (cf_W 0 h0 h1 cA (cf_put k (cf_slot n) (cf_wrt (cf_told k tm al ln (cf_slot n)) kd v)) md tm al ln od) := hD
              refine lv_aload_n hx hb dX0_access_95 rfl (lv_at hl 4 rfl) ?_
              refine lv_iload hx hb dX0_access_96 (lv_at hl 0 rfl) ?_
              refine va_put (D := D) (ci := 0) (v := .int (cf_told k tm al ln (cf_slot n))) (ty := .int) (C := RX0) (T := TX0) (N := 6) hx hb hts hin0 tyX0 tyX0_ok nmX0 hown hK hP hD hS 0 rfl rfl 5 (by decide) (hts (.fieldLink RX0 58 "ControlFile" "oldValue" "I") (by decide +kernel)) (fun _ h9 => h9) rfl (by decide +kernel) rfl rfl (Nat.le_of_ble_eq_true rfl) dX0_access_98 (fun H locs hP hD hS => ?_)
              have hP : va_P D vwCl (cf_W 0 h0 h1 cA (cf_put k (cf_slot n) (cf_wrt (cf_told k tm al ln (cf_slot n)) kd v)) md tm al ln (cf_told k tm al ln (cf_slot n))) H := hP
              have hD : va_D A (cf_W 0 h0 h1 cA (cf_put k (cf_slot n) (cf_wrt (cf_told k tm al ln (cf_slot n)) kd v)) md tm al ln (cf_told k tm al ln (cf_slot n))) := hD
              refine lv_iconst (v := 0) hx hb dX0_access_101 (by decide) ?_
              exact cf_wrEnd hx hb hr hlocks hP hD hK hS (by simp only [cf_accR, cf_accO, cf_accK, cf_bit, cf_at, if_neg c_1, if_pos c_2, if_neg c_3, if_pos c_10, if_neg c_11, if_neg c_12, if_neg cf_n10, if_pos cf_p00, ↓reduceIte]) (by simp only [cf_accR, cf_accO, cf_accK, cf_bit, cf_at, if_neg c_1, if_pos c_2, if_neg c_3, if_pos c_10, if_neg c_11, if_neg c_12, if_neg cf_n10, if_pos cf_p00, ↓reduceIte]) dX0_access_102
          · skip
            refine lv_iload hx hb dX0_access_50 (lv_at hl 1 rfl) ?_
            refine cf_callS (As := [.int (cf_slot n)]) (rest := []) ⟨hx, hb, hml, hown, hts⟩ (c_isOfS l D z (cf_slot n)) (va_cwS 1 hts gX0_access_X0_isOfS rfl rfl rfl (by decide +kernel) ⟨Nat.le_of_ble_eq_true rfl, Nat.le_of_ble_eq_true rfl⟩) (hP.sub (ws' := []) [] rfl) (hK.sub (tys' := []) [] rfl) hZ hS rfl hl.1 rfl (Nat.le_of_ble_eq_true rfl) dX0_access_52 ⟨Nat.zero_le _, Nat.zero_le _⟩ ?_
            refine lv_if_eq (tgt := 66) hx hb dX0_access_55 (by decide) (fun c_13 => ?_) (fun c_13 => ?_)
            · skip
              refine lv_iload hx hb dX0_access_66 (lv_at hl 1 rfl) ?_
              refine lv_istore (lv' := [(6, .int (cf_slot n)), (5, .int (cf_perm k md (cf_slot n) 1)), (4, .int (cf_slot n)), (0, .ref h0), (1, .int n), (2, .int kd), (3, .int v)]) hx hb dX0_access_68 hl (by decide) rfl (fun ls hl => ?_)
              refine lv_aload_n hx hb dX0_access_70 rfl (lv_at hl 3 rfl) ?_
              refine lv_iload hx hb dX0_access_71 (lv_at hl 0 rfl) ?_
              refine cf_callV (As := [.int (cf_slot n)]) (rest := []) ⟨hx, hb, hml, hown, hts⟩ (c_told l D z h0 h1 cA k md tm al ln od (cf_slot n)) (cwV 1 hts gX0_access_X0_told rfl rfl rfl (by decide +kernel) ⟨Nat.le_of_ble_eq_true rfl, Nat.le_of_ble_eq_true rfl⟩) hP hK hZ hS (ci := 0) (q0 := 0) rfl rfl rfl rfl hl.1 rfl (Nat.le_of_ble_eq_true rfl) dX0_access_73 ⟨Nat.zero_le _, Nat.zero_le _⟩ ?_
              refine lv_istore (lv' := [(7, .int (cf_told k tm al ln (cf_slot n))), (6, .int (cf_slot n)), (5, .int (cf_perm k md (cf_slot n) 1)), (4, .int (cf_slot n)), (0, .ref h0), (1, .int n), (2, .int kd), (3, .int v)]) hx hb dX0_access_76 hl (by decide) rfl (fun ls hl => ?_)
              refine lv_iload_n hx hb dX0_access_78 rfl (lv_at hl 6 rfl) ?_
              refine lv_if_eq (tgt := 95) hx hb dX0_access_79 (by decide) (fun c_14 => ?_) (fun c_14 => ?_)
              · skip
                exact absurd c_14 c_3
              · skip
                refine lv_aload_n hx hb dX0_access_82 rfl (lv_at hl 4 rfl) ?_
                refine lv_iload hx hb dX0_access_83 (lv_at hl 1 rfl) ?_
                refine lv_iload hx hb dX0_access_85 (lv_at hl 0 rfl) ?_
                refine lv_iload_n hx hb dX0_access_87 rfl (lv_at hl 6 rfl) ?_
                refine lv_iload_n hx hb dX0_access_88 rfl (lv_at hl 7 rfl) ?_
                refine cf_callS (As := [.int (cf_told k tm al ln (cf_slot n)), .int kd, .int v]) (rest := [.int (cf_slot n), .ref h0]) ⟨hx, hb, hml, hown, hts⟩ (c_written l D z (cf_told k tm al ln (cf_slot n)) kd v) (va_cwS 3 hts gX0_access_X0_written rfl rfl rfl (by decide +kernel) ⟨Nat.le_of_ble_eq_true rfl, Nat.le_of_ble_eq_true rfl⟩) (hP.sub (ws' := []) [] rfl) (hK.sub (tys' := []) [] rfl) hZ hS rfl hl.1 rfl (Nat.le_of_ble_eq_true rfl) dX0_access_89 ⟨Nat.zero_le _, Nat.zero_le _⟩ ?_
                refine cf_wcallN (As := [.int (cf_slot n), .int (cf_wrt (cf_told k tm al ln (cf_slot n)) kd v)]) (rest := []) (wc := cf_W 0 h0 h1 cA k md tm al ln od) (wr := []) (wF := cf_W 0 h0 h1 cA (cf_put k (cf_slot n) (cf_wrt (cf_told k tm al ln (cf_slot n)) kd v)) md tm al ln od) ⟨hx, hb, hml, hown, hts⟩ (c_put l D z h0 h1 cA k md tm al ln od s.heap.size (cf_slot n) (cf_wrt (cf_told k tm al ln (cf_slot n)) kd v)) (cwV 2 hts gX0_access_X0_put rfl rfl rfl (by decide +kernel) ⟨Nat.le_of_ble_eq_true rfl, Nat.le_of_ble_eq_true rfl⟩) hP hD hK hZ hS hA hP [0, 1] [] rfl rfl rfl rfl (by decide) (ci := 0) (q0 := 0) rfl rfl rfl rfl hl.1 rfl (Nat.le_of_ble_eq_true rfl) dX0_access_92 ⟨Nat.zero_le _, Nat.zero_le _⟩ (fun H locs hP hD hS => ?_)
                have hP : va_P D vwCl (cf_W 0 h0 h1 cA (cf_put k (cf_slot n) (cf_wrt (cf_told k tm al ln (cf_slot n)) kd v)) md tm al ln od) H := hP
                have hD : va_D A (cf_W 0 h0 h1 cA (cf_put k (cf_slot n) (cf_wrt (cf_told k tm al ln (cf_slot n)) kd v)) md tm al ln od) := hD
                refine lv_aload_n hx hb dX0_access_95 rfl (lv_at hl 4 rfl) ?_
                refine lv_iload hx hb dX0_access_96 (lv_at hl 0 rfl) ?_
                refine va_put (D := D) (ci := 0) (v := .int (cf_told k tm al ln (cf_slot n))) (ty := .int) (C := RX0) (T := TX0) (N := 6) hx hb hts hin0 tyX0 tyX0_ok nmX0 hown hK hP hD hS 0 rfl rfl 5 (by decide) (hts (.fieldLink RX0 58 "ControlFile" "oldValue" "I") (by decide +kernel)) (fun _ h9 => h9) rfl (by decide +kernel) rfl rfl (Nat.le_of_ble_eq_true rfl) dX0_access_98 (fun H locs hP hD hS => ?_)
                have hP : va_P D vwCl (cf_W 0 h0 h1 cA (cf_put k (cf_slot n) (cf_wrt (cf_told k tm al ln (cf_slot n)) kd v)) md tm al ln (cf_told k tm al ln (cf_slot n))) H := hP
                have hD : va_D A (cf_W 0 h0 h1 cA (cf_put k (cf_slot n) (cf_wrt (cf_told k tm al ln (cf_slot n)) kd v)) md tm al ln (cf_told k tm al ln (cf_slot n))) := hD
                refine lv_iconst (v := 0) hx hb dX0_access_101 (by decide) ?_
                exact cf_wrEnd hx hb hr hlocks hP hD hK hS (by simp only [cf_accR, cf_accO, cf_accK, cf_bit, cf_at, if_neg c_1, if_pos c_2, if_neg c_3, if_pos c_10, if_pos c_11, if_pos c_13, if_neg c_14, if_neg cf_n10, if_pos cf_p00, ↓reduceIte]) (by simp only [cf_accR, cf_accO, cf_accK, cf_bit, cf_at, if_neg c_1, if_pos c_2, if_neg c_3, if_pos c_10, if_pos c_11, if_pos c_13, if_neg c_14, if_neg cf_n10, if_pos cf_p00, ↓reduceIte]) dX0_access_102
            · skip
              refine lv_iload hx hb dX0_access_58 (lv_at hl 1 rfl) ?_
              refine lv_bipush (v := 9) hx hb dX0_access_60 (by decide) ?_
              refine lv_iadd hx hb dX0_access_62 ?_
              refine lv_goto (tgt := 68) hx hb dX0_access_63 (by decide) ?_
              refine lv_istore (lv' := [(6, .int ((cf_slot n) + 9)), (5, .int (cf_perm k md (cf_slot n) 1)), (4, .int (cf_slot n)), (0, .ref h0), (1, .int n), (2, .int kd), (3, .int v)]) hx hb dX0_access_68 hl (by decide) rfl (fun ls hl => ?_)
              refine lv_aload_n hx hb dX0_access_70 rfl (lv_at hl 3 rfl) ?_
              refine lv_iload hx hb dX0_access_71 (lv_at hl 0 rfl) ?_
              refine cf_callV (As := [.int ((cf_slot n) + 9)]) (rest := []) ⟨hx, hb, hml, hown, hts⟩ (c_told l D z h0 h1 cA k md tm al ln od ((cf_slot n) + 9)) (cwV 1 hts gX0_access_X0_told rfl rfl rfl (by decide +kernel) ⟨Nat.le_of_ble_eq_true rfl, Nat.le_of_ble_eq_true rfl⟩) hP hK hZ hS (ci := 0) (q0 := 0) rfl rfl rfl rfl hl.1 rfl (Nat.le_of_ble_eq_true rfl) dX0_access_73 ⟨Nat.zero_le _, Nat.zero_le _⟩ ?_
              refine lv_istore (lv' := [(7, .int (cf_told k tm al ln ((cf_slot n) + 9))), (6, .int ((cf_slot n) + 9)), (5, .int (cf_perm k md (cf_slot n) 1)), (4, .int (cf_slot n)), (0, .ref h0), (1, .int n), (2, .int kd), (3, .int v)]) hx hb dX0_access_76 hl (by decide) rfl (fun ls hl => ?_)
              refine lv_iload_n hx hb dX0_access_78 rfl (lv_at hl 6 rfl) ?_
              refine lv_if_eq (tgt := 95) hx hb dX0_access_79 (by decide) (fun c_15 => ?_) (fun c_15 => ?_)
              · skip
                exact absurd c_15 c_3
              · skip
                refine lv_aload_n hx hb dX0_access_82 rfl (lv_at hl 4 rfl) ?_
                refine lv_iload hx hb dX0_access_83 (lv_at hl 1 rfl) ?_
                refine lv_iload hx hb dX0_access_85 (lv_at hl 0 rfl) ?_
                refine lv_iload_n hx hb dX0_access_87 rfl (lv_at hl 6 rfl) ?_
                refine lv_iload_n hx hb dX0_access_88 rfl (lv_at hl 7 rfl) ?_
                refine cf_callS (As := [.int (cf_told k tm al ln ((cf_slot n) + 9)), .int kd, .int v]) (rest := [.int ((cf_slot n) + 9), .ref h0]) ⟨hx, hb, hml, hown, hts⟩ (c_written l D z (cf_told k tm al ln ((cf_slot n) + 9)) kd v) (va_cwS 3 hts gX0_access_X0_written rfl rfl rfl (by decide +kernel) ⟨Nat.le_of_ble_eq_true rfl, Nat.le_of_ble_eq_true rfl⟩) (hP.sub (ws' := []) [] rfl) (hK.sub (tys' := []) [] rfl) hZ hS rfl hl.1 rfl (Nat.le_of_ble_eq_true rfl) dX0_access_89 ⟨Nat.zero_le _, Nat.zero_le _⟩ ?_
                refine cf_wcallN (As := [.int ((cf_slot n) + 9), .int (cf_wrt (cf_told k tm al ln ((cf_slot n) + 9)) kd v)]) (rest := []) (wc := cf_W 0 h0 h1 cA k md tm al ln od) (wr := []) (wF := cf_W 0 h0 h1 cA (cf_put k ((cf_slot n) + 9) (cf_wrt (cf_told k tm al ln ((cf_slot n) + 9)) kd v)) md tm al ln od) ⟨hx, hb, hml, hown, hts⟩ (c_put l D z h0 h1 cA k md tm al ln od s.heap.size ((cf_slot n) + 9) (cf_wrt (cf_told k tm al ln ((cf_slot n) + 9)) kd v)) (cwV 2 hts gX0_access_X0_put rfl rfl rfl (by decide +kernel) ⟨Nat.le_of_ble_eq_true rfl, Nat.le_of_ble_eq_true rfl⟩) hP hD hK hZ hS hA hP [0, 1] [] rfl rfl rfl rfl (by decide) (ci := 0) (q0 := 0) rfl rfl rfl rfl hl.1 rfl (Nat.le_of_ble_eq_true rfl) dX0_access_92 ⟨Nat.zero_le _, Nat.zero_le _⟩ (fun H locs hP hD hS => ?_)
                have hP : va_P D vwCl (cf_W 0 h0 h1 cA (cf_put k ((cf_slot n) + 9) (cf_wrt (cf_told k tm al ln ((cf_slot n) + 9)) kd v)) md tm al ln od) H := hP
                have hD : va_D A (cf_W 0 h0 h1 cA (cf_put k ((cf_slot n) + 9) (cf_wrt (cf_told k tm al ln ((cf_slot n) + 9)) kd v)) md tm al ln od) := hD
                refine lv_aload_n hx hb dX0_access_95 rfl (lv_at hl 4 rfl) ?_
                refine lv_iload hx hb dX0_access_96 (lv_at hl 0 rfl) ?_
                refine va_put (D := D) (ci := 0) (v := .int (cf_told k tm al ln ((cf_slot n) + 9))) (ty := .int) (C := RX0) (T := TX0) (N := 6) hx hb hts hin0 tyX0 tyX0_ok nmX0 hown hK hP hD hS 0 rfl rfl 5 (by decide) (hts (.fieldLink RX0 58 "ControlFile" "oldValue" "I") (by decide +kernel)) (fun _ h9 => h9) rfl (by decide +kernel) rfl rfl (Nat.le_of_ble_eq_true rfl) dX0_access_98 (fun H locs hP hD hS => ?_)
                have hP : va_P D vwCl (cf_W 0 h0 h1 cA (cf_put k ((cf_slot n) + 9) (cf_wrt (cf_told k tm al ln ((cf_slot n) + 9)) kd v)) md tm al ln (cf_told k tm al ln ((cf_slot n) + 9))) H := hP
                have hD : va_D A (cf_W 0 h0 h1 cA (cf_put k ((cf_slot n) + 9) (cf_wrt (cf_told k tm al ln ((cf_slot n) + 9)) kd v)) md tm al ln (cf_told k tm al ln ((cf_slot n) + 9))) := hD
                refine lv_iconst (v := 0) hx hb dX0_access_101 (by decide) ?_
                exact cf_wrEnd hx hb hr hlocks hP hD hK hS (by simp only [cf_accR, cf_accO, cf_accK, cf_bit, cf_at, if_neg c_1, if_pos c_2, if_neg c_3, if_pos c_10, if_pos c_11, if_neg c_13, if_neg c_15, if_neg cf_n10, if_pos cf_p00, ↓reduceIte]) (by simp only [cf_accR, cf_accO, cf_accK, cf_bit, cf_at, if_neg c_1, if_pos c_2, if_neg c_3, if_pos c_10, if_pos c_11, if_neg c_13, if_neg c_15, if_neg cf_n10, if_pos cf_p00, ↓reduceIte]) dX0_access_102
        · skip
          refine lv_iload hx hb dX0_access_39 (lv_at hl 0 rfl) ?_
          exact cf_wrEnd hx hb hr hlocks hP hD hK hS (by simp only [cf_accR, cf_accO, cf_accK, cf_bit, cf_at, if_neg c_1, if_pos c_2, if_neg c_3, if_neg c_10, if_neg cf_n10, if_pos cf_p00, ↓reduceIte]) (by simp only [cf_accR, cf_accO, cf_accK, cf_bit, cf_at, if_neg c_1, if_pos c_2, if_neg c_3, if_neg c_10, if_neg cf_n10, if_pos cf_p00, ↓reduceIte]) dX0_access_41
    · skip
      refine lv_iconst (v := -1) hx hb dX0_access_9 (by decide) ?_
      exact cf_wrEnd hx hb hr hlocks hP hD hK hS (by simp only [cf_accR, cf_accO, cf_accK, cf_bit, cf_at, if_neg c_1, if_neg c_2, if_neg cf_n10, if_pos cf_p00, ↓reduceIte]) (by simp only [cf_accR, cf_accO, cf_accK, cf_bit, cf_at, if_neg c_1, if_neg c_2, if_neg cf_n10, if_pos cf_p00, ↓reduceIte]) dX0_access_10
set_option maxHeartbeats 4000000 in
set_option maxRecDepth 100000 in
/-- Arrays.fill over the row of 29 -/
theorem c_fill (l : Launch) (D : va_G) (z : Nat → Nat) (h1 : Nat) (cA : ClassId) (f : Nat → Int32) (v : Int32) (sz : Nat) : Met l yJ7_fill_53178 wsJ7_fill_53178 ({ frames := 0, cells := 0, slots := 0, locals := 0 } : Room) (cf_wr [.ref h1, .int v] D [(h1, .inl (cA, 29, .inl f))] [(cA, .int)] sz z) (va_Qv (fun u => u = [(h1, .inl (cA, 29, .inl (cf_fill f v 29)))]) (cf_B D [(cA, .int)] (va_A [(h1, .inl (cA, 29, .inl f))] sz)) (va_A [(h1, .inl (cA, 29, .inl f))] sz)) 0 0 (va_A [(h1, .inl (cA, 29, .inl f))] sz) := by
  refine Met.ofW (cc := cJ7_fill_53178) (maxL := 4) (ret := none) (by decide) rfl ?_
  intro p e s m args below meth c s₁ B hml hv
  obtain ⟨rfl, hsz, hP, hK, hD0, hZ⟩ := hv
  have hx := B.exec
  have hb := B.bytes
  have hr := B.returns
  have hlocks := B.notSynchronized
  subst hsz
  have hD := hD0.self (sz := s.heap.size)
  generalize hAe : va_A [(h1, .inl (cA, 29, .inl f))] s.heap.size = A at hD hZ ⊢
  have hA : ∀ q : Nat, s.heap.size ≤ q → A q := fun q h => by rw [← hAe]; exact Or.inr h
  have hS : va_S A s.heap s.heap [] := va_S.rf
  have hl := lv_entry ([.ref h1, .int v]) (n := 4) (Nat.le_of_ble_eq_true rfl)
  rw [lg_entry_eq]
  generalize (lg_sl ([.ref h1, .int v]) ++ List.replicate (4 - (lg_sl ([.ref h1, .int v])).length) Slot.unset).toArray = ls at hl ⊢
  have hl : lv_has ls 4 [(0, .ref h1), (1, .int v)] := hl
  refine lv_iconst (v := 0) hx hb dJ7_fill_53178_0 (by decide) ?_
  refine lv_istore_n (lv' := [(2, .int 0), (0, .ref h1), (1, .int v)]) hx hb dJ7_fill_53178_1 rfl hl (by decide) rfl (fun ls hl => ?_)
  refine lv_aload_n hx hb dJ7_fill_53178_2 rfl (lv_at hl 1 rfl) ?_
  refine va_alen (v := 29) hx hb hK hP 0 0 rfl rfl rfl dJ7_fill_53178_3 ?_
  refine lv_istore_n (lv' := [(3, .int 29), (2, .int 0), (0, .ref h1), (1, .int v)]) hx hb dJ7_fill_53178_4 rfl hl (by decide) rfl (fun ls hl => ?_)
  refine cf_indH (G := fun H locs g => W p l e _ s m _ below meth c H locs 0 0 _ g) 29 (fun i H locs ls => lv_has ls 4 [(2, .int (nI i)), (3, .int 29), (0, .ref h1), (1, .int v)] ∧ va_P D vwCl [(h1, .inl (cA, 29, .inl (cf_fill f v i)))] H ∧ va_D A [(h1, .inl (cA, 29, .inl (cf_fill f v i)))] ∧ va_S A s.heap H locs) ?_ ?_ 29 0 s.heap [] ls rfl (by omega) ⟨lv_sub hl [1, 0, 2, 3] rfl, by rw [cf_fill_0]; exact hP, by rw [cf_fill_0]; exact hD, hS⟩
  · intro i H locs ls hi hI ih
    obtain ⟨hl, hP, hD, hS⟩ := hI
    refine lv_iload_n hx hb dJ7_fill_53178_5 rfl (lv_at hl 0 rfl) ?_
    refine lv_iload_n hx hb dJ7_fill_53178_6 rfl (lv_at hl 1 rfl) ?_
    refine lv_icmp_ge (tgt := 20) hx hb dJ7_fill_53178_7 (by decide) (fun c_1 => ?_) (fun c_1 => ?_)
    · skip
      exact absurd c_1 (show ¬ (29 : Int32) ≤ nI i from nI_ge hi (by decide))
    · skip
      refine lv_aload_n hx hb dJ7_fill_53178_10 rfl (lv_at hl 2 rfl) ?_
      refine lv_iload_n hx hb dJ7_fill_53178_11 rfl (lv_at hl 0 rfl) ?_
      refine lv_iload_n hx hb dJ7_fill_53178_12 rfl (lv_at hl 3 rfl) ?_
      refine va_iast hx hb hK hP hD hS 0 0 rfl rfl (vp_in_nI hi (by omega)) dJ7_fill_53178_13 (fun H locs hP hD hS => ?_)
      have hP : va_P D vwCl ([(h1, .inl (cA, 29, .inl (upd (cf_fill f v i) (nI i).toNatClampNeg v)))]) H := hP
      have hD : va_D A ([(h1, .inl (cA, 29, .inl (upd (cf_fill f v i) (nI i).toNatClampNeg v)))]) := hD
      refine lv_iinc (v := nI (i + 1)) (lv' := [(2, .int (nI (i + 1))), (3, .int 29), (0, .ref h1), (1, .int v)]) hx hb dJ7_fill_53178_14 hl (k := 0) rfl (nI_1 i) (by decide) rfl (fun ls hl => ?_)
      refine lv_goto (tgt := 5) hx hb dJ7_fill_53178_17 (by decide) ?_
      rw [show upd (cf_fill f v i) (nI i).toNatClampNeg v = cf_fill f v (i + 1) by rw [nI_clamp (by omega)]; exact cf_fill_s f v i] at hP hD
      exact ih H locs ls ⟨lv_sub hl [0, 1, 2, 3] rfl, hP, hD, hS⟩
  · intro H locs ls hI
    obtain ⟨hl, hP, hD, hS⟩ := hI
    refine lv_iload_n hx hb dJ7_fill_53178_5 rfl (lv_at hl 0 rfl) ?_
    refine lv_iload_n hx hb dJ7_fill_53178_6 rfl (lv_at hl 1 rfl) ?_
    refine lv_icmp_ge (tgt := 20) hx hb dJ7_fill_53178_7 (by decide) (fun c_2 => ?_) (fun c_2 => ?_)
    · skip
      exact cf_wrEndN hx hb hr hlocks hP hD hK hS rfl dJ7_fill_53178_20
    · skip
      exact absurd (show (29 : Int32) ≤ nI 29 by decide) c_2
set_option maxHeartbeats 4000000 in
set_option maxRecDepth 100000 in
theorem c_startOver (l : Launch) (D : va_G) (z : Nat → Nat) (h0 h1 : Nat) (cA : ClassId) (k : Nat → Int32) (md : Int32) (tm al : Int64) (ln od : Int32) (sz : Nat) : Met l yX0_startOver wsX0_startOver ({ frames := 1, cells := 0, slots := 0, locals := 23 } : Room) (cf_wr [.ref h0] D (cf_W 0 h0 h1 cA k md tm al ln od) [(cA, .int)] sz z) (va_Qv (fun u => u = cf_W 0 h0 h1 cA (cf_fill k 0 29) 1 0 9223372036854775807 0 0) (cf_B D [(cA, .int)] (va_A (cf_W 0 h0 h1 cA k md tm al ln od) sz)) (va_A (cf_W 0 h0 h1 cA k md tm al ln od) sz)) 0 0 (va_A (cf_W 0 h0 h1 cA k md tm al ln od) sz) := by
  refine Met.ofW (cc := cX0_startOver) (maxL := 1) (ret := none) (by decide) rfl ?_
  intro p e s m args below meth c s₁ B hml hv
  obtain ⟨rfl, hsz, hP, hK, hD0, hZ⟩ := hv
  have hx := B.exec
  have hb := B.bytes
  have hr := B.returns
  have hts := atoms_spec (ws := wsX0_startOver) B.pre
  have hown : s.vm.findClass RX0 = some m.cls := findClass_of_methodNamed B.named
  have hlocks := B.notSynchronized
  have hin0 : ∀ w ∈ wsX00, w ∈ wsX0_startOver := by decide +kernel
  subst hsz
  have hD := hD0.self (sz := s.heap.size)
  generalize hAe : va_A (cf_W 0 h0 h1 cA k md tm al ln od) s.heap.size = A at hD hZ ⊢
  have hA : ∀ q : Nat, s.heap.size ≤ q → A q := fun q h => by rw [← hAe]; exact Or.inr h
  have hS : va_S A s.heap s.heap [] := va_S.rf
  have hl := lv_entry ([.ref h0]) (n := 1) (Nat.le_of_ble_eq_true rfl)
  rw [lg_entry_eq]
  generalize (lg_sl ([.ref h0]) ++ List.replicate (1 - (lg_sl ([.ref h0])).length) Slot.unset).toArray = ls at hl ⊢
  have hl : lv_has ls 1 [(0, .ref h0)] := hl
  refine lv_aload_n hx hb dX0_startOver_0 rfl (lv_at hl 0 rfl) ?_
  refine va_get (D := D) (ci := 0) (v := .ref h1) (C := RX0) (T := TX0) (N := 6) hx hb hts hin0 hown hK hP 0 rfl rfl 0 (by decide) (hts (.fieldLink RX0 9 "ControlFile" "kept" "[I") (by decide +kernel)) (fun _ h9 => h9) rfl dX0_startOver_1 ?_
  refine lv_iconst (v := 0) hx hb dX0_startOver_4 (by decide) ?_
  refine cf_wcallSN (As := [.ref h1, .int 0]) (rest := []) (wc := [(h1, .inl (cA, 29, .inl k))]) (wr := [(h0, .inr (0, [.ref h1, .int md, .long tm, .long al, .int ln, .int od]))]) (wF := [(h1, .inl (cA, 29, .inl (cf_fill k 0 29)))]) ⟨hx, hb, hml, hown, hts⟩ (c_fill l D z h1 cA k 0 s.heap.size) (va_cwS 2 hts gX0_startOver_J7_fill_53178 rfl rfl rfl (by decide +kernel) ⟨Nat.le_of_ble_eq_true rfl, Nat.le_of_ble_eq_true rfl⟩) hP hD hK hZ hS hA (hP.sub [1] rfl) [1] [0] rfl rfl rfl rfl (by decide) rfl hl.1 rfl (Nat.le_of_ble_eq_true rfl) dX0_startOver_5 ⟨Nat.zero_le _, Nat.zero_le _⟩ (fun H locs hP hD hS => ?_)
  have hP : va_P D vwCl (cf_W 0 h0 h1 cA (cf_fill k 0 29) md tm al ln od) H := hP
  have hD : va_D A (cf_W 0 h0 h1 cA (cf_fill k 0 29) md tm al ln od) := hD
  refine lv_aload_n hx hb dX0_startOver_8 rfl (lv_at hl 0 rfl) ?_
  refine lv_iconst (v := 1) hx hb dX0_startOver_9 (by decide) ?_
  refine va_put (D := D) (ci := 0) (v := .int 1) (ty := .int) (C := RX0) (T := TX0) (N := 6) hx hb hts hin0 tyX0 tyX0_ok nmX0 hown hK hP hD hS 0 rfl rfl 1 (by decide) (hts (.fieldLink RX0 16 "ControlFile" "modeNow" "I") (by decide +kernel)) (fun _ h9 => h9) rfl (by decide +kernel) rfl rfl (Nat.le_of_ble_eq_true rfl) dX0_startOver_10 (fun H locs hP hD hS => ?_)
  have hP : va_P D vwCl (cf_W 0 h0 h1 cA (cf_fill k 0 29) 1 tm al ln od) H := hP
  have hD : va_D A (cf_W 0 h0 h1 cA (cf_fill k 0 29) 1 tm al ln od) := hD
  refine lv_aload_n hx hb dX0_startOver_13 rfl (lv_at hl 0 rfl) ?_
  refine lv_lconst (v := 0) hx hb dX0_startOver_14 (by decide) ?_
  refine va_put (D := D) (ci := 0) (v := .long 0) (ty := .long) (C := RX0) (T := TX0) (N := 6) hx hb hts hin0 tyX0 tyX0_ok nmX0 hown hK hP hD hS 0 rfl rfl 2 (by decide) (hts (.fieldLink RX0 22 "ControlFile" "timeNow" "J") (by decide +kernel)) (fun _ h9 => h9) rfl (by decide +kernel) rfl rfl (Nat.le_of_ble_eq_true rfl) dX0_startOver_15 (fun H locs hP hD hS => ?_)
  have hP : va_P D vwCl (cf_W 0 h0 h1 cA (cf_fill k 0 29) 1 0 al ln od) H := hP
  have hD : va_D A (cf_W 0 h0 h1 cA (cf_fill k 0 29) 1 0 al ln od) := hD
  refine lv_aload_n hx hb dX0_startOver_18 rfl (lv_at hl 0 rfl) ?_
  refine lv_ldc2 (own := RX0) (v := 9223372036854775807) hx hb hown (hts (.constantLong RX0 29 9223372036854775807) (by decide +kernel)) dX0_startOver_19 ?_
  refine va_put (D := D) (ci := 0) (v := .long 9223372036854775807) (ty := .long) (C := RX0) (T := TX0) (N := 6) hx hb hts hin0 tyX0 tyX0_ok nmX0 hown hK hP hD hS 0 rfl rfl 3 (by decide) (hts (.fieldLink RX0 26 "ControlFile" "alarmAt" "J") (by decide +kernel)) (fun _ h9 => h9) rfl (by decide +kernel) rfl rfl (Nat.le_of_ble_eq_true rfl) dX0_startOver_22 (fun H locs hP hD hS => ?_)
  have hP : va_P D vwCl (cf_W 0 h0 h1 cA (cf_fill k 0 29) 1 0 9223372036854775807 ln od) H := hP
  have hD : va_D A (cf_W 0 h0 h1 cA (cf_fill k 0 29) 1 0 9223372036854775807 ln od) := hD
  refine lv_aload_n hx hb dX0_startOver_25 rfl (lv_at hl 0 rfl) ?_
  refine lv_iconst (v := 0) hx hb dX0_startOver_26 (by decide) ?_
  refine va_put (D := D) (ci := 0) (v := .int 0) (ty := .boolean) (C := RX0) (T := TX0) (N := 6) hx hb hts hin0 tyX0 tyX0_ok nmX0 hown hK hP hD hS 0 rfl rfl 4 (by decide) (hts (.fieldLink RX0 31 "ControlFile" "lineOn" "Z") (by decide +kernel)) (fun _ h9 => h9) rfl (by decide +kernel) rfl rfl (Nat.le_of_ble_eq_true rfl) dX0_startOver_27 (fun H locs hP hD hS => ?_)
  have hP : va_P D vwCl (cf_W 0 h0 h1 cA (cf_fill k 0 29) 1 0 9223372036854775807 0 od) H := hP
  have hD : va_D A (cf_W 0 h0 h1 cA (cf_fill k 0 29) 1 0 9223372036854775807 0 od) := hD
  refine lv_aload_n hx hb dX0_startOver_30 rfl (lv_at hl 0 rfl) ?_
  refine lv_iconst (v := 0) hx hb dX0_startOver_31 (by decide) ?_
  refine va_put (D := D) (ci := 0) (v := .int 0) (ty := .int) (C := RX0) (T := TX0) (N := 6) hx hb hts hin0 tyX0 tyX0_ok nmX0 hown hK hP hD hS 0 rfl rfl 5 (by decide) (hts (.fieldLink RX0 58 "ControlFile" "oldValue" "I") (by decide +kernel)) (fun _ h9 => h9) rfl (by decide +kernel) rfl rfl (Nat.le_of_ble_eq_true rfl) dX0_startOver_32 (fun H locs hP hD hS => ?_)
  have hP : va_P D vwCl (cf_W 0 h0 h1 cA (cf_fill k 0 29) 1 0 9223372036854775807 0 0) H := hP
  have hD : va_D A (cf_W 0 h0 h1 cA (cf_fill k 0 29) 1 0 9223372036854775807 0 0) := hD
  exact cf_wrEndN hx hb hr hlocks hP hD hK hS (rfl) dX0_startOver_35
set_option maxHeartbeats 4000000 in
set_option maxRecDepth 100000 in
theorem c_begin (l : Launch) (D : va_G) (z : Nat → Nat) (h0 h1 : Nat) (cA : ClassId) (k : Nat → Int32) (md : Int32) (tm al : Int64) (ln od : Int32) (sz : Nat) : Met l yX0_begin wsX0_begin ({ frames := 2, cells := 0, slots := 0, locals := 43 } : Room) (cf_wr [.ref h0] D (cf_W 0 h0 h1 cA k md tm al ln od) [(cA, .int)] sz z) (va_Qv (fun u => u = cf_W 0 h0 h1 cA (cf_fill k 0 29) 1 0 9223372036854775807 0 0) (cf_B D [(cA, .int)] (va_A (cf_W 0 h0 h1 cA k md tm al ln od) sz)) (va_A (cf_W 0 h0 h1 cA k md tm al ln od) sz)) 0 0 (va_A (cf_W 0 h0 h1 cA k md tm al ln od) sz) := by
  refine Met.ofW (cc := cX0_begin) (maxL := 1) (ret := none) (by decide) rfl ?_
  intro p e s m args below meth c s₁ B hml hv
  obtain ⟨rfl, hsz, hP, hK, hD0, hZ⟩ := hv
  have hx := B.exec
  have hb := B.bytes
  have hr := B.returns
  have hts := atoms_spec (ws := wsX0_begin) B.pre
  have hown : s.vm.findClass RX0 = some m.cls := findClass_of_methodNamed B.named
  have hlocks := B.notSynchronized
  subst hsz
  have hD := hD0.self (sz := s.heap.size)
  generalize hAe : va_A (cf_W 0 h0 h1 cA k md tm al ln od) s.heap.size = A at hD hZ ⊢
  have hA : ∀ q : Nat, s.heap.size ≤ q → A q := fun q h => by rw [← hAe]; exact Or.inr h
  have hS : va_S A s.heap s.heap [] := va_S.rf
  have hl := lv_entry ([.ref h0]) (n := 1) (Nat.le_of_ble_eq_true rfl)
  rw [lg_entry_eq]
  generalize (lg_sl ([.ref h0]) ++ List.replicate (1 - (lg_sl ([.ref h0])).length) Slot.unset).toArray = ls at hl ⊢
  have hl : lv_has ls 1 [(0, .ref h0)] := hl
  refine lv_aload_n hx hb dX0_begin_0 rfl (lv_at hl 0 rfl) ?_
  refine cf_wcallN (As := []) (rest := []) (wc := cf_W 0 h0 h1 cA k md tm al ln od) (wr := []) (wF := cf_W 0 h0 h1 cA (cf_fill k 0 29) 1 0 9223372036854775807 0 0) ⟨hx, hb, hml, hown, hts⟩ (c_startOver l D z h0 h1 cA k md tm al ln od s.heap.size) (cwV 0 hts gX0_begin_X0_startOver rfl rfl rfl (by decide +kernel) ⟨Nat.le_of_ble_eq_true rfl, Nat.le_of_ble_eq_true rfl⟩) hP hD hK hZ hS hA hP [0, 1] [] rfl rfl rfl rfl (by decide) (ci := 0) (q0 := 0) rfl rfl rfl rfl hl.1 rfl (Nat.le_of_ble_eq_true rfl) dX0_begin_1 ⟨Nat.zero_le _, Nat.zero_le _⟩ (fun H locs hP hD hS => ?_)
  have hP : va_P D vwCl (cf_W 0 h0 h1 cA (cf_fill k 0 29) 1 0 9223372036854775807 0 0) H := hP
  have hD : va_D A (cf_W 0 h0 h1 cA (cf_fill k 0 29) 1 0 9223372036854775807 0 0) := hD
  exact cf_wrEndN hx hb hr hlocks hP hD hK hS (rfl) dX0_begin_4
end
section
set_option maxHeartbeats 4000000 in
set_option maxRecDepth 100000 in
theorem c_init (l : Launch) (D : va_G) (z : Nat → Nat) (h0 : Nat) (sz : Nat) : Met l yX0_init wsX0_init ({ frames := 2, cells := 1, slots := 29, locals := 43 } : Room) (cf_wr [.ref h0] D [(h0, .inr (0, [.null, .int 0, .long 0, .long 0, .int 0, .int 0]))] [] sz z) (va_Qv (fun _ : Nat × ClassId => True) (fun u t => cf_B D [(u.2, .int)] (va_A [(h0, .inr (0, [.null, .int 0, .long 0, .long 0, .int 0, .int 0]))] sz) (cf_W 0 h0 u.1 u.2 (cf_fill (fun _ => 0) 0 29) 1 0 9223372036854775807 0 0) t) (va_A [(h0, .inr (0, [.null, .int 0, .long 0, .long 0, .int 0, .int 0]))] sz)) 1 29 (va_A [(h0, .inr (0, [.null, .int 0, .long 0, .long 0, .int 0, .int 0]))] sz) := by
  refine Met.ofW (cc := cX0_init) (maxL := 1) (ret := none) (by decide) rfl ?_
  intro p e s m args below meth c s₁ B hml hv
  obtain ⟨rfl, hsz, hP, hK, hD0, hZ⟩ := hv
  have hx := B.exec
  have hb := B.bytes
  have hr := B.returns
  have hts := atoms_spec (ws := wsX0_init) B.pre
  have hown : s.vm.findClass RX0 = some m.cls := findClass_of_methodNamed B.named
  have hlocks := B.notSynchronized
  have hin : meth.name = "<init>" := (name_of_methodNamed B.named B.method).1
  have hin0 : ∀ w ∈ wsX00, w ∈ wsX0_init := by decide +kernel
  subst hsz
  have hD := hD0.self (sz := s.heap.size)
  generalize hAe : va_A [(h0, .inr (0, [.null, .int 0, .long 0, .long 0, .int 0, .int 0]))] s.heap.size = A at hD hZ ⊢
  have hA : ∀ q : Nat, s.heap.size ≤ q → A q := fun q h => by rw [← hAe]; exact Or.inr h
  have hS : va_S A s.heap s.heap [] := va_S.rf
  have hl := lv_entry ([.ref h0]) (n := 1) (Nat.le_of_ble_eq_true rfl)
  rw [lg_entry_eq]
  generalize (lg_sl ([.ref h0]) ++ List.replicate (1 - (lg_sl ([.ref h0])).length) Slot.unset).toArray = ls at hl ⊢
  have hl : lv_has ls 1 [(0, .ref h0)] := hl
  refine lv_aload_n hx hb dX0_init_0 rfl (lv_at hl 0 rfl) ?_
  refine W.objInit hx hb hown (hts (.methodLink RX0 3 objectInit) (by decide +kernel)) (hts (.instanceMethod objectInit) (by decide +kernel)) (hts (.code objectInit ⟨#[0xb1]⟩ 1 none) (by decide +kernel)) rfl (by rw [hml]; exact hl.1) rfl dX0_init_1 (Nat.le_of_ble_eq_true rfl) (Nat.le_of_ble_eq_true rfl) ?_
  refine W.eq (g2 := F0 m 4 ls []) rfl ?_
  refine lv_aload_n hx hb dX0_init_4 rfl (lv_at hl 0 rfl) ?_
  refine lv_bipush (v := 29) hx hb dX0_init_5 (by decide) ?_
  refine va_newa (atype := .int) (n := 29) (ty := .int) (N' := 29) (a0 := (29, .inl (fun _ => 0))) hx hb (hts (.arrayClass .int) (by decide +kernel)) rfl hK hP hD hS hA (fun _ => rfl) (by decide) (by decide) (by decide) (Nat.le_of_ble_eq_true rfl) (Nat.le_of_ble_eq_true rfl) dX0_init_7 (fun h1 cA H hK hP hD hS => ?_)
  have hK : va_K D vwCl [(cA, .int)] s := hK
  have hP : va_P D vwCl [(h0, .inr (0, [.null, .int 0, .long 0, .long 0, .int 0, .int 0])), (h1, .inl (cA, 29, .inl (fun _ => 0)))] H := hP
  have hD : va_D A [(h0, .inr (0, [.null, .int 0, .long 0, .long 0, .int 0, .int 0])), (h1, .inl (cA, 29, .inl (fun _ => 0)))] := hD
  refine W.widen (k := 1) (n := 29) (by omega) (by omega) ?_
  refine va_putF (D := D) (ci := 0) (v := .ref h1) (ty := .array .int) (C := RX0) (T := TX0) (N := 6) hx hb hts hin0 tyX0 tyX0_ok nmX0 hown hK hP hD hS 0 rfl rfl 0 (by decide) (hts (.fieldLink RX0 9 "ControlFile" "kept" "[I") (by decide +kernel)) (fun _ h9 => h9) rfl hin rfl (by decide +kernel) rfl rfl (Nat.le_of_ble_eq_true rfl) dX0_init_9 (fun H locs hP hD hS => ?_)
  have hP : va_P D vwCl (cf_W 0 h0 h1 cA (fun _ => 0) 0 0 0 0 0) H := hP
  have hD : va_D A (cf_W 0 h0 h1 cA (fun _ => 0) 0 0 0 0 0) := hD
  refine lv_aload_n hx hb dX0_init_12 rfl (lv_at hl 0 rfl) ?_
  refine cf_wcallN (As := []) (rest := []) (wc := cf_W 0 h0 h1 cA (fun _ => 0) 0 0 0 0 0) (wr := []) (wF := (cf_W 0 h0 h1 cA (cf_fill (fun _ => 0) 0 29) 1 0 9223372036854775807 0 0)) ⟨hx, hb, hml, hown, hts⟩ (c_startOver l D z h0 h1 cA (fun _ => 0) 0 0 0 0 0 H.size) (cwV 0 hts gX0_init_X0_startOver rfl rfl rfl (by decide +kernel) ⟨Nat.le_of_ble_eq_true rfl, Nat.le_of_ble_eq_true rfl⟩) hP hD hK hZ hS hA hP [0, 1] [] rfl rfl rfl rfl (by decide) (ci := 0) (q0 := 0) rfl rfl rfl rfl hl.1 rfl (Nat.le_of_ble_eq_true rfl) dX0_init_13 ⟨Nat.le_of_ble_eq_true rfl, Nat.le_of_ble_eq_true rfl⟩ (fun H locs hP hD hS => ?_)
  have hP : va_P D vwCl (cf_W 0 h0 h1 cA (cf_fill (fun _ => 0) 0 29) 1 0 9223372036854775807 0 0) H := hP
  have hD : va_D A (cf_W 0 h0 h1 cA (cf_fill (fun _ => 0) 0 29) 1 0 9223372036854775807 0 0) := hD
  exact W.vret hx hb hr (fun t ht hW => ⟨⟨(h1, cA), rfl, trivial, by rw [ht]; exact hP, va_K.moved hW.alike hK, hD⟩, hS.F ht⟩) hS.2.2 dX0_init_16 hlocks
end
section
set_option maxHeartbeats 4000000 in
set_option maxRecDepth 100000 in
theorem m_kindOf (l : Launch) (D : va_G) (z : Nat → Nat) (x : Int32) : Met l yX1_kindOf wsX1_kindOf ({ frames := 0, cells := 0, slots := 0, locals := 0 } : Room) (cf_ro [.int x] D [] [] z) (vp_Si (fun r => r = mf_kind x)) 0 0 (fun _ => False) := by
  refine Met.ofW (cc := cX1_kindOf) (maxL := 1) (ret := (some .int)) (by decide) rfl ?_
  intro p e s m args below meth c s₁ B hml hv
  obtain ⟨rfl, hP, hK, hZ⟩ := hv
  have hx := B.exec
  have hb := B.bytes
  have hr := B.returns
  have hts := atoms_spec (ws := wsX1_kindOf) B.pre
  have hown : s.vm.findClass RX1 = some m.cls := findClass_of_methodNamed B.named
  have hlocks := B.notSynchronized
  have hS : va_S (fun _ => False) s.heap s.heap [] := va_S.rf
  have hl := lv_entry ([.int x]) (n := 1) (Nat.le_of_ble_eq_true rfl)
  rw [lg_entry_eq]
  generalize (lg_sl ([.int x]) ++ List.replicate (1 - (lg_sl ([.int x])).length) Slot.unset).toArray = ls at hl ⊢
  have hl : lv_has ls 1 [(0, .int x)] := hl
  refine lv_iload_n hx hb dX1_kindOf_0 rfl (lv_at hl 0 rfl) ?_
  by_cases c_1 : x = 0
  · skip
    refine lv_lookup (off := 83) (tgt := 84) hx hb dX1_kindOf_1 (by decide) (by rw [c_1]; decide) (by decide) ?_
    refine lv_iconst (v := 0) hx hb dX1_kindOf_84 (by decide) ?_
    exact cf_roEnd hx hb hr hlocks (by simp only [mf_kind, if_pos c_1, if_neg cf_n10, if_pos cf_p00, ↓reduceIte]) dX1_kindOf_85
  by_cases c_2 : x = 4
  · skip
    refine lv_lookup (off := 85) (tgt := 86) hx hb dX1_kindOf_1 (by decide) (by rw [c_2]; decide) (by decide) ?_
    refine lv_iconst (v := 1) hx hb dX1_kindOf_86 (by decide) ?_
    exact cf_roEnd hx hb hr hlocks (by simp only [mf_kind, if_neg c_1, if_pos c_2, if_neg cf_n10, if_pos cf_p00, ↓reduceIte]) dX1_kindOf_87
  by_cases c_3 : x = 5
  · skip
    refine lv_lookup (off := 87) (tgt := 88) hx hb dX1_kindOf_1 (by decide) (by rw [c_3]; decide) (by decide) ?_
    refine lv_iconst (v := 2) hx hb dX1_kindOf_88 (by decide) ?_
    exact cf_roEnd hx hb hr hlocks (by simp only [mf_kind, if_neg c_1, if_neg c_2, if_pos c_3, if_neg cf_n10, if_pos cf_p00, ↓reduceIte]) dX1_kindOf_89
  by_cases c_4 : x = 64
  · skip
    refine lv_lookup (off := 89) (tgt := 90) hx hb dX1_kindOf_1 (by decide) (by rw [c_4]; decide) (by decide) ?_
    refine lv_iload_n hx hb dX1_kindOf_90 rfl (lv_at hl 0 rfl) ?_
    refine lv_bipush (v := 64) hx hb dX1_kindOf_91 (by decide) ?_
    refine lv_isub hx hb dX1_kindOf_93 ?_
    refine lv_iconst (v := 3) hx hb dX1_kindOf_94 (by decide) ?_
    refine lv_iadd hx hb dX1_kindOf_95 ?_
    exact cf_roEnd hx hb hr hlocks (by simp only [mf_kind, if_neg c_1, if_neg c_2, if_neg c_3, if_pos c_4, if_neg cf_n10, if_pos cf_p00, ↓reduceIte]) dX1_kindOf_96
  by_cases c_5 : x = 65
  · skip
    refine lv_lookup (off := 89) (tgt := 90) hx hb dX1_kindOf_1 (by decide) (by rw [c_5]; decide) (by decide) ?_
    refine lv_iload_n hx hb dX1_kindOf_90 rfl (lv_at hl 0 rfl) ?_
    refine lv_bipush (v := 64) hx hb dX1_kindOf_91 (by decide) ?_
    refine lv_isub hx hb dX1_kindOf_93 ?_
    refine lv_iconst (v := 3) hx hb dX1_kindOf_94 (by decide) ?_
    refine lv_iadd hx hb dX1_kindOf_95 ?_
    exact cf_roEnd hx hb hr hlocks (by simp only [mf_kind, if_neg c_1, if_neg c_2, if_neg c_3, if_neg c_4, if_pos c_5, if_neg cf_n10, if_pos cf_p00, ↓reduceIte]) dX1_kindOf_96
  by_cases c_6 : x = 66
  · skip
    refine lv_lookup (off := 89) (tgt := 90) hx hb dX1_kindOf_1 (by decide) (by rw [c_6]; decide) (by decide) ?_
    refine lv_iload_n hx hb dX1_kindOf_90 rfl (lv_at hl 0 rfl) ?_
    refine lv_bipush (v := 64) hx hb dX1_kindOf_91 (by decide) ?_
    refine lv_isub hx hb dX1_kindOf_93 ?_
    refine lv_iconst (v := 3) hx hb dX1_kindOf_94 (by decide) ?_
    refine lv_iadd hx hb dX1_kindOf_95 ?_
    exact cf_roEnd hx hb hr hlocks (by simp only [mf_kind, if_neg c_1, if_neg c_2, if_neg c_3, if_neg c_4, if_neg c_5, if_pos c_6, if_neg cf_n10, if_pos cf_p00, ↓reduceIte]) dX1_kindOf_96
  by_cases c_7 : x = 67
  · skip
    refine lv_lookup (off := 89) (tgt := 90) hx hb dX1_kindOf_1 (by decide) (by rw [c_7]; decide) (by decide) ?_
    refine lv_iload_n hx hb dX1_kindOf_90 rfl (lv_at hl 0 rfl) ?_
    refine lv_bipush (v := 64) hx hb dX1_kindOf_91 (by decide) ?_
    refine lv_isub hx hb dX1_kindOf_93 ?_
    refine lv_iconst (v := 3) hx hb dX1_kindOf_94 (by decide) ?_
    refine lv_iadd hx hb dX1_kindOf_95 ?_
    exact cf_roEnd hx hb hr hlocks (by simp only [mf_kind, if_neg c_1, if_neg c_2, if_neg c_3, if_neg c_4, if_neg c_5, if_neg c_6, if_pos c_7, if_neg cf_n10, if_pos cf_p00, ↓reduceIte]) dX1_kindOf_96
  by_cases c_8 : x = 68
  · skip
    refine lv_lookup (off := 89) (tgt := 90) hx hb dX1_kindOf_1 (by decide) (by rw [c_8]; decide) (by decide) ?_
    refine lv_iload_n hx hb dX1_kindOf_90 rfl (lv_at hl 0 rfl) ?_
    refine lv_bipush (v := 64) hx hb dX1_kindOf_91 (by decide) ?_
    refine lv_isub hx hb dX1_kindOf_93 ?_
    refine lv_iconst (v := 3) hx hb dX1_kindOf_94 (by decide) ?_
    refine lv_iadd hx hb dX1_kindOf_95 ?_
    exact cf_roEnd hx hb hr hlocks (by simp only [mf_kind, if_neg c_1, if_neg c_2, if_neg c_3, if_neg c_4, if_neg c_5, if_neg c_6, if_neg c_7, if_pos c_8, if_neg cf_n10, if_pos cf_p00, ↓reduceIte]) dX1_kindOf_96
  by_cases c_9 : x = 128
  · skip
    refine lv_lookup (off := 96) (tgt := 97) hx hb dX1_kindOf_1 (by decide) (by rw [c_9]; decide) (by decide) ?_
    refine lv_bipush (v := 8) hx hb dX1_kindOf_97 (by decide) ?_
    exact cf_roEnd hx hb hr hlocks (by simp only [mf_kind, if_neg c_1, if_neg c_2, if_neg c_3, if_neg c_4, if_neg c_5, if_neg c_6, if_neg c_7, if_neg c_8, if_pos c_9, if_neg cf_n10, if_pos cf_p00, ↓reduceIte]) dX1_kindOf_99
  refine lv_lookup (off := 99) (tgt := 100) hx hb dX1_kindOf_1 (by decide) (show Op.lookupswitch.offset [(0, 83), (4, 85), (5, 87), (64, 89), (65, 89), (66, 89), (67, 89), (68, 89), (128, 96)] 99 (x).toInt = 99 by rw [Op.lookupswitch.offset_cons, if_neg (cf_ne (a := 0) (by decide) c_1), Op.lookupswitch.offset_cons, if_neg (cf_ne (a := 4) (by decide) c_2), Op.lookupswitch.offset_cons, if_neg (cf_ne (a := 5) (by decide) c_3), Op.lookupswitch.offset_cons, if_neg (cf_ne (a := 64) (by decide) c_4), Op.lookupswitch.offset_cons, if_neg (cf_ne (a := 65) (by decide) c_5), Op.lookupswitch.offset_cons, if_neg (cf_ne (a := 66) (by decide) c_6), Op.lookupswitch.offset_cons, if_neg (cf_ne (a := 67) (by decide) c_7), Op.lookupswitch.offset_cons, if_neg (cf_ne (a := 68) (by decide) c_8), Op.lookupswitch.offset_cons, if_neg (cf_ne (a := 128) (by decide) c_9), Op.lookupswitch.offset_nil]) (by decide) ?_
  refine lv_iconst (v := -1) hx hb dX1_kindOf_100 (by decide) ?_
  exact cf_roEnd hx hb hr hlocks (by simp only [mf_kind, if_neg c_1, if_neg c_2, if_neg c_3, if_neg c_4, if_neg c_5, if_neg c_6, if_neg c_7, if_neg c_8, if_neg c_9, if_neg cf_n10, if_pos cf_p00, ↓reduceIte]) dX1_kindOf_101
set_option maxHeartbeats 4000000 in
set_option maxRecDepth 100000 in
theorem m_hyperOf (l : Launch) (D : va_G) (z : Nat → Nat) (x : Int32) : Met l yX1_hyperOf wsX1_hyperOf ({ frames := 0, cells := 0, slots := 0, locals := 0 } : Room) (cf_ro [.int x] D [] [] z) (vp_Si (fun r => r = mf_hyp x)) 0 0 (fun _ => False) := by
  refine Met.ofW (cc := cX1_hyperOf) (maxL := 1) (ret := (some .int)) (by decide) rfl ?_
  intro p e s m args below meth c s₁ B hml hv
  obtain ⟨rfl, hP, hK, hZ⟩ := hv
  have hx := B.exec
  have hb := B.bytes
  have hr := B.returns
  have hts := atoms_spec (ws := wsX1_hyperOf) B.pre
  have hown : s.vm.findClass RX1 = some m.cls := findClass_of_methodNamed B.named
  have hlocks := B.notSynchronized
  have hS : va_S (fun _ => False) s.heap s.heap [] := va_S.rf
  have hl := lv_entry ([.int x]) (n := 1) (Nat.le_of_ble_eq_true rfl)
  rw [lg_entry_eq]
  generalize (lg_sl ([.int x]) ++ List.replicate (1 - (lg_sl ([.int x])).length) Slot.unset).toArray = ls at hl ⊢
  have hl : lv_has ls 1 [(0, .int x)] := hl
  refine lv_iload_n hx hb dX1_hyperOf_0 rfl (lv_at hl 0 rfl) ?_
  by_cases c_1 : x = 1536
  · skip
    refine lv_lookup (off := 99) (tgt := 100) hx hb dX1_hyperOf_1 (by decide) (by rw [c_1]; decide) (by decide) ?_
    refine lv_bipush (v := 18) hx hb dX1_hyperOf_100 (by decide) ?_
    exact cf_roEnd hx hb hr hlocks (by simp only [mf_hyp, if_pos c_1, if_neg cf_n10, if_pos cf_p00, ↓reduceIte]) dX1_hyperOf_102
  by_cases c_2 : x = 1538
  · skip
    refine lv_lookup (off := 102) (tgt := 103) hx hb dX1_hyperOf_1 (by decide) (by rw [c_2]; decide) (by decide) ?_
    refine lv_bipush (v := 19) hx hb dX1_hyperOf_103 (by decide) ?_
    exact cf_roEnd hx hb hr hlocks (by simp only [mf_hyp, if_neg c_1, if_pos c_2, if_neg cf_n10, if_pos cf_p00, ↓reduceIte]) dX1_hyperOf_105
  by_cases c_3 : x = 1539
  · skip
    refine lv_lookup (off := 105) (tgt := 106) hx hb dX1_hyperOf_1 (by decide) (by rw [c_3]; decide) (by decide) ?_
    refine lv_bipush (v := 20) hx hb dX1_hyperOf_106 (by decide) ?_
    exact cf_roEnd hx hb hr hlocks (by simp only [mf_hyp, if_neg c_1, if_neg c_2, if_pos c_3, if_neg cf_n10, if_pos cf_p00, ↓reduceIte]) dX1_hyperOf_108
  by_cases c_4 : x = 1540
  · skip
    refine lv_lookup (off := 108) (tgt := 109) hx hb dX1_hyperOf_1 (by decide) (by rw [c_4]; decide) (by decide) ?_
    refine lv_bipush (v := 21) hx hb dX1_hyperOf_109 (by decide) ?_
    exact cf_roEnd hx hb hr hlocks (by simp only [mf_hyp, if_neg c_1, if_neg c_2, if_neg c_3, if_pos c_4, if_neg cf_n10, if_pos cf_p00, ↓reduceIte]) dX1_hyperOf_111
  by_cases c_5 : x = 1603
  · skip
    refine lv_lookup (off := 111) (tgt := 112) hx hb dX1_hyperOf_1 (by decide) (by rw [c_5]; decide) (by decide) ?_
    refine lv_bipush (v := 22) hx hb dX1_hyperOf_112 (by decide) ?_
    exact cf_roEnd hx hb hr hlocks (by simp only [mf_hyp, if_neg c_1, if_neg c_2, if_neg c_3, if_neg c_4, if_pos c_5, if_neg cf_n10, if_pos cf_p00, ↓reduceIte]) dX1_hyperOf_114
  by_cases c_6 : x = 1604
  · skip
    refine lv_lookup (off := 114) (tgt := 115) hx hb dX1_hyperOf_1 (by decide) (by rw [c_6]; decide) (by decide) ?_
    refine lv_bipush (v := 23) hx hb dX1_hyperOf_115 (by decide) ?_
    exact cf_roEnd hx hb hr hlocks (by simp only [mf_hyp, if_neg c_1, if_neg c_2, if_neg c_3, if_neg c_4, if_neg c_5, if_pos c_6, if_neg cf_n10, if_pos cf_p00, ↓reduceIte]) dX1_hyperOf_117
  by_cases c_7 : x = 1605
  · skip
    refine lv_lookup (off := 117) (tgt := 118) hx hb dX1_hyperOf_1 (by decide) (by rw [c_7]; decide) (by decide) ?_
    refine lv_bipush (v := 24) hx hb dX1_hyperOf_118 (by decide) ?_
    exact cf_roEnd hx hb hr hlocks (by simp only [mf_hyp, if_neg c_1, if_neg c_2, if_neg c_3, if_neg c_4, if_neg c_5, if_neg c_6, if_pos c_7, if_neg cf_n10, if_pos cf_p00, ↓reduceIte]) dX1_hyperOf_120
  by_cases c_8 : x = 1610
  · skip
    refine lv_lookup (off := 120) (tgt := 121) hx hb dX1_hyperOf_1 (by decide) (by rw [c_8]; decide) (by decide) ?_
    refine lv_bipush (v := 25) hx hb dX1_hyperOf_121 (by decide) ?_
    exact cf_roEnd hx hb hr hlocks (by simp only [mf_hyp, if_neg c_1, if_neg c_2, if_neg c_3, if_neg c_4, if_neg c_5, if_neg c_6, if_neg c_7, if_pos c_8, if_neg cf_n10, if_pos cf_p00, ↓reduceIte]) dX1_hyperOf_123
  by_cases c_9 : x = 1664
  · skip
    refine lv_lookup (off := 123) (tgt := 124) hx hb dX1_hyperOf_1 (by decide) (by rw [c_9]; decide) (by decide) ?_
    refine lv_bipush (v := 26) hx hb dX1_hyperOf_124 (by decide) ?_
    exact cf_roEnd hx hb hr hlocks (by simp only [mf_hyp, if_neg c_1, if_neg c_2, if_neg c_3, if_neg c_4, if_neg c_5, if_neg c_6, if_neg c_7, if_neg c_8, if_pos c_9, if_neg cf_n10, if_pos cf_p00, ↓reduceIte]) dX1_hyperOf_126
  by_cases c_10 : x = 3073
  · skip
    refine lv_lookup (off := 126) (tgt := 127) hx hb dX1_hyperOf_1 (by decide) (by rw [c_10]; decide) (by decide) ?_
    refine lv_bipush (v := 27) hx hb dX1_hyperOf_127 (by decide) ?_
    exact cf_roEnd hx hb hr hlocks (by simp only [mf_hyp, if_neg c_1, if_neg c_2, if_neg c_3, if_neg c_4, if_neg c_5, if_neg c_6, if_neg c_7, if_neg c_8, if_neg c_9, if_pos c_10, if_neg cf_n10, if_pos cf_p00, ↓reduceIte]) dX1_hyperOf_129
  by_cases c_11 : x = 3201
  · skip
    refine lv_lookup (off := 129) (tgt := 130) hx hb dX1_hyperOf_1 (by decide) (by rw [c_11]; decide) (by decide) ?_
    refine lv_bipush (v := 28) hx hb dX1_hyperOf_130 (by decide) ?_
    exact cf_roEnd hx hb hr hlocks (by simp only [mf_hyp, if_neg c_1, if_neg c_2, if_neg c_3, if_neg c_4, if_neg c_5, if_neg c_6, if_neg c_7, if_neg c_8, if_neg c_9, if_neg c_10, if_pos c_11, if_neg cf_n10, if_pos cf_p00, ↓reduceIte]) dX1_hyperOf_132
  refine lv_lookup (off := 132) (tgt := 133) hx hb dX1_hyperOf_1 (by decide) (show Op.lookupswitch.offset [(1536, 99), (1538, 102), (1539, 105), (1540, 108), (1603, 111), (1604, 114), (1605, 117), (1610, 120), (1664, 123), (3073, 126), (3201, 129)] 132 (x).toInt = 132 by rw [Op.lookupswitch.offset_cons, if_neg (cf_ne (a := 1536) (by decide) c_1), Op.lookupswitch.offset_cons, if_neg (cf_ne (a := 1538) (by decide) c_2), Op.lookupswitch.offset_cons, if_neg (cf_ne (a := 1539) (by decide) c_3), Op.lookupswitch.offset_cons, if_neg (cf_ne (a := 1540) (by decide) c_4), Op.lookupswitch.offset_cons, if_neg (cf_ne (a := 1603) (by decide) c_5), Op.lookupswitch.offset_cons, if_neg (cf_ne (a := 1604) (by decide) c_6), Op.lookupswitch.offset_cons, if_neg (cf_ne (a := 1605) (by decide) c_7), Op.lookupswitch.offset_cons, if_neg (cf_ne (a := 1610) (by decide) c_8), Op.lookupswitch.offset_cons, if_neg (cf_ne (a := 1664) (by decide) c_9), Op.lookupswitch.offset_cons, if_neg (cf_ne (a := 3073) (by decide) c_10), Op.lookupswitch.offset_cons, if_neg (cf_ne (a := 3201) (by decide) c_11), Op.lookupswitch.offset_nil]) (by decide) ?_
  refine lv_iconst (v := -1) hx hb dX1_hyperOf_133 (by decide) ?_
  exact cf_roEnd hx hb hr hlocks (by simp only [mf_hyp, if_neg c_1, if_neg c_2, if_neg c_3, if_neg c_4, if_neg c_5, if_neg c_6, if_neg c_7, if_neg c_8, if_neg c_9, if_neg c_10, if_neg c_11, if_neg cf_n10, if_pos cf_p00, ↓reduceIte]) dX1_hyperOf_134
set_option maxHeartbeats 4000000 in
set_option maxRecDepth 100000 in
theorem m_placeOf (l : Launch) (D : va_G) (z : Nat → Nat) (n : Int32) : Met l yX1_placeOf wsX1_placeOf ({ frames := 1, cells := 0, slots := 0, locals := 20 } : Room) (cf_ro [.int n] D [] [] z) (vp_Si (fun r => r = mf_place n)) 0 0 (fun _ => False) := by
  refine Met.ofW (cc := cX1_placeOf) (maxL := 3) (ret := (some .int)) (by decide) rfl ?_
  intro p e s m args below meth c s₁ B hml hv
  obtain ⟨rfl, hP, hK, hZ⟩ := hv
  have hx := B.exec
  have hb := B.bytes
  have hr := B.returns
  have hts := atoms_spec (ws := wsX1_placeOf) B.pre
  have hown : s.vm.findClass RX1 = some m.cls := findClass_of_methodNamed B.named
  have hlocks := B.notSynchronized
  have hS : va_S (fun _ => False) s.heap s.heap [] := va_S.rf
  have hl := lv_entry ([.int n]) (n := 3) (Nat.le_of_ble_eq_true rfl)
  rw [lg_entry_eq]
  generalize (lg_sl ([.int n]) ++ List.replicate (3 - (lg_sl ([.int n])).length) Slot.unset).toArray = ls at hl ⊢
  have hl : lv_has ls 3 [(0, .int n)] := hl
  refine lv_iload_n hx hb dX1_placeOf_0 rfl (lv_at hl 0 rfl) ?_
  refine lv_bipush (v := 8) hx hb dX1_placeOf_1 (by decide) ?_
  refine lv_ishr hx hb dX1_placeOf_3 ?_
  refine lv_istore_n (lv' := [(1, .int (n >>> ((8 : Int32) &&& 31))), (0, .int n)]) hx hb dX1_placeOf_4 rfl hl (by decide) rfl (fun ls hl => ?_)
  refine lv_iload_n hx hb dX1_placeOf_5 rfl (lv_at hl 0 rfl) ?_
  refine lv_iconst (v := 1) hx hb dX1_placeOf_6 (by decide) ?_
  refine lv_icmp_eq (tgt := 20) hx hb dX1_placeOf_7 (by decide) (fun c_1 => ?_) (fun c_1 => ?_)
  · skip
    refine lv_iload_n hx hb dX1_placeOf_20 rfl (lv_at hl 1 rfl) ?_
    refine lv_sipush (v := 255) hx hb dX1_placeOf_21 (by decide) ?_
    refine lv_iand hx hb dX1_placeOf_24 ?_
    refine cf_callS (As := [.int (n &&& 255)]) (rest := []) ⟨hx, hb, hml, hown, hts⟩ (m_kindOf l D z (n &&& 255)) (va_cwS 1 hts gX1_placeOf_X1_kindOf rfl rfl rfl (by decide +kernel) ⟨Nat.le_of_ble_eq_true rfl, Nat.le_of_ble_eq_true rfl⟩) (hP.sub (ws' := []) [] rfl) (hK.sub (tys' := []) [] rfl) hZ hS rfl hl.1 rfl (Nat.le_of_ble_eq_true rfl) dX1_placeOf_25 ⟨Nat.zero_le _, Nat.zero_le _⟩ ?_
    refine lv_istore_n (lv' := [(2, .int (mf_kind (n &&& 255))), (1, .int (n >>> ((8 : Int32) &&& 31))), (0, .int n)]) hx hb dX1_placeOf_28 rfl hl (by decide) rfl (fun ls hl => ?_)
    refine lv_iload_n hx hb dX1_placeOf_29 rfl (lv_at hl 0 rfl) ?_
    refine lv_iconst (v := -1) hx hb dX1_placeOf_30 (by decide) ?_
    refine lv_icmp_ne (tgt := 38) hx hb dX1_placeOf_31 (by decide) (fun c_2 => ?_) (fun c_2 => ?_)
    · skip
      refine lv_iload_n hx hb dX1_placeOf_38 rfl (lv_at hl 1 rfl) ?_
      refine lv_iconst (v := 1) hx hb dX1_placeOf_39 (by decide) ?_
      refine lv_icmp_ne (tgt := 47) hx hb dX1_placeOf_40 (by decide) (fun c_3 => ?_) (fun c_3 => ?_)
      · skip
        exact absurd c_1 c_3
      · skip
        refine lv_iload_n hx hb dX1_placeOf_43 rfl (lv_at hl 0 rfl) ?_
        refine lv_goto (tgt := 51) hx hb dX1_placeOf_44 (by decide) ?_
        exact cf_roEnd hx hb hr hlocks (by simp only [mf_place, if_pos c_1, if_neg c_2, if_pos c_3, if_neg cf_n10, if_pos cf_p00, ↓reduceIte]) dX1_placeOf_51
    · skip
      refine lv_iconst (v := -1) hx hb dX1_placeOf_34 (by decide) ?_
      refine lv_goto (tgt := 51) hx hb dX1_placeOf_35 (by decide) ?_
      exact cf_roEnd hx hb hr hlocks (by simp only [mf_place, if_pos c_1, if_pos c_2, if_neg cf_n10, if_pos cf_p00, ↓reduceIte]) dX1_placeOf_51
  · skip
    refine lv_iload_n hx hb dX1_placeOf_10 rfl (lv_at hl 0 rfl) ?_
    refine lv_iconst (v := 2) hx hb dX1_placeOf_11 (by decide) ?_
    refine lv_icmp_eq (tgt := 20) hx hb dX1_placeOf_12 (by decide) (fun c_4 => ?_) (fun c_4 => ?_)
    · skip
      refine lv_iload_n hx hb dX1_placeOf_20 rfl (lv_at hl 1 rfl) ?_
      refine lv_sipush (v := 255) hx hb dX1_placeOf_21 (by decide) ?_
      refine lv_iand hx hb dX1_placeOf_24 ?_
      refine cf_callS (As := [.int (n &&& 255)]) (rest := []) ⟨hx, hb, hml, hown, hts⟩ (m_kindOf l D z (n &&& 255)) (va_cwS 1 hts gX1_placeOf_X1_kindOf rfl rfl rfl (by decide +kernel) ⟨Nat.le_of_ble_eq_true rfl, Nat.le_of_ble_eq_true rfl⟩) (hP.sub (ws' := []) [] rfl) (hK.sub (tys' := []) [] rfl) hZ hS rfl hl.1 rfl (Nat.le_of_ble_eq_true rfl) dX1_placeOf_25 ⟨Nat.zero_le _, Nat.zero_le _⟩ ?_
      refine lv_istore_n (lv' := [(2, .int (mf_kind (n &&& 255))), (1, .int (n >>> ((8 : Int32) &&& 31))), (0, .int n)]) hx hb dX1_placeOf_28 rfl hl (by decide) rfl (fun ls hl => ?_)
      refine lv_iload_n hx hb dX1_placeOf_29 rfl (lv_at hl 0 rfl) ?_
      refine lv_iconst (v := -1) hx hb dX1_placeOf_30 (by decide) ?_
      refine lv_icmp_ne (tgt := 38) hx hb dX1_placeOf_31 (by decide) (fun c_5 => ?_) (fun c_5 => ?_)
      · skip
        refine lv_iload_n hx hb dX1_placeOf_38 rfl (lv_at hl 1 rfl) ?_
        refine lv_iconst (v := 1) hx hb dX1_placeOf_39 (by decide) ?_
        refine lv_icmp_ne (tgt := 47) hx hb dX1_placeOf_40 (by decide) (fun c_6 => ?_) (fun c_6 => ?_)
        · skip
          refine lv_bipush (v := 9) hx hb dX1_placeOf_47 (by decide) ?_
          refine lv_iload_n hx hb dX1_placeOf_49 rfl (lv_at hl 0 rfl) ?_
          refine lv_iadd hx hb dX1_placeOf_50 ?_
          exact cf_roEnd hx hb hr hlocks (by simp only [mf_place, if_neg c_1, if_pos c_4, if_neg c_5, if_neg c_6, if_neg cf_n10, if_pos cf_p00, ↓reduceIte]) dX1_placeOf_51
        · skip
          exact absurd c_6 c_1
      · skip
        refine lv_iconst (v := -1) hx hb dX1_placeOf_34 (by decide) ?_
        refine lv_goto (tgt := 51) hx hb dX1_placeOf_35 (by decide) ?_
        exact cf_roEnd hx hb hr hlocks (by simp only [mf_place, if_neg c_1, if_pos c_4, if_pos c_5, if_neg cf_n10, if_pos cf_p00, ↓reduceIte]) dX1_placeOf_51
    · skip
      refine lv_iload_n hx hb dX1_placeOf_15 rfl (lv_at hl 1 rfl) ?_
      refine cf_callS (As := [.int n]) (rest := []) ⟨hx, hb, hml, hown, hts⟩ (m_hyperOf l D z n) (va_cwS 1 hts gX1_placeOf_X1_hyperOf rfl rfl rfl (by decide +kernel) ⟨Nat.le_of_ble_eq_true rfl, Nat.le_of_ble_eq_true rfl⟩) (hP.sub (ws' := []) [] rfl) (hK.sub (tys' := []) [] rfl) hZ hS rfl hl.1 rfl (Nat.le_of_ble_eq_true rfl) dX1_placeOf_16 ⟨Nat.zero_le _, Nat.zero_le _⟩ ?_
      exact cf_roEnd hx hb hr hlocks (by simp only [mf_place, if_neg c_1, if_neg c_4, if_neg cf_n10, if_pos cf_p00, ↓reduceIte]) dX1_placeOf_19
set_option maxHeartbeats 4000000 in
set_option maxRecDepth 100000 in
theorem m_firstOf (l : Launch) (D : va_G) (z : Nat → Nat) (x : Int32) (a : Int32) (b : Int32) (d : Int32) : Met l yX1_firstOf wsX1_firstOf ({ frames := 0, cells := 0, slots := 0, locals := 0 } : Room) (cf_ro [.int x, .int a, .int b, .int d] D [] [] z) (vp_Si (fun r => r = mf_fst x a b d)) 0 0 (fun _ => False) := by
  refine Met.ofW (cc := cX1_firstOf) (maxL := 4) (ret := (some .int)) (by decide) rfl ?_
  intro p e s m args below meth c s₁ B hml hv
  obtain ⟨rfl, hP, hK, hZ⟩ := hv
  have hx := B.exec
  have hb := B.bytes
  have hr := B.returns
  have hts := atoms_spec (ws := wsX1_firstOf) B.pre
  have hown : s.vm.findClass RX1 = some m.cls := findClass_of_methodNamed B.named
  have hlocks := B.notSynchronized
  have hS : va_S (fun _ => False) s.heap s.heap [] := va_S.rf
  have hl := lv_entry ([.int x, .int a, .int b, .int d]) (n := 4) (Nat.le_of_ble_eq_true rfl)
  rw [lg_entry_eq]
  generalize (lg_sl ([.int x, .int a, .int b, .int d]) ++ List.replicate (4 - (lg_sl ([.int x, .int a, .int b, .int d])).length) Slot.unset).toArray = ls at hl ⊢
  have hl : lv_has ls 4 [(0, .int x), (1, .int a), (2, .int b), (3, .int d)] := hl
  refine lv_iload_n hx hb dX1_firstOf_0 rfl (lv_at hl 0 rfl) ?_
  refine lv_iload_n hx hb dX1_firstOf_1 rfl (lv_at hl 1 rfl) ?_
  refine lv_ishr hx hb dX1_firstOf_2 ?_
  refine lv_iconst (v := 1) hx hb dX1_firstOf_3 (by decide) ?_
  refine lv_iand hx hb dX1_firstOf_4 ?_
  refine lv_iconst (v := 1) hx hb dX1_firstOf_5 (by decide) ?_
  refine lv_icmp_ne (tgt := 13) hx hb dX1_firstOf_6 (by decide) (fun c_1 => ?_) (fun c_1 => ?_)
  · skip
    refine lv_iload_n hx hb dX1_firstOf_13 rfl (lv_at hl 0 rfl) ?_
    refine lv_iload_n hx hb dX1_firstOf_14 rfl (lv_at hl 2 rfl) ?_
    refine lv_ishr hx hb dX1_firstOf_15 ?_
    refine lv_iconst (v := 1) hx hb dX1_firstOf_16 (by decide) ?_
    refine lv_iand hx hb dX1_firstOf_17 ?_
    refine lv_iconst (v := 1) hx hb dX1_firstOf_18 (by decide) ?_
    refine lv_icmp_ne (tgt := 26) hx hb dX1_firstOf_19 (by decide) (fun c_2 => ?_) (fun c_2 => ?_)
    · skip
      refine lv_iload_n hx hb dX1_firstOf_26 rfl (lv_at hl 0 rfl) ?_
      refine lv_iload_n hx hb dX1_firstOf_27 rfl (lv_at hl 3 rfl) ?_
      refine lv_ishr hx hb dX1_firstOf_28 ?_
      refine lv_iconst (v := 1) hx hb dX1_firstOf_29 (by decide) ?_
      refine lv_iand hx hb dX1_firstOf_30 ?_
      refine lv_iconst (v := 1) hx hb dX1_firstOf_31 (by decide) ?_
      refine lv_icmp_ne (tgt := 39) hx hb dX1_firstOf_32 (by decide) (fun c_3 => ?_) (fun c_3 => ?_)
      · skip
        refine lv_iconst (v := -1) hx hb dX1_firstOf_39 (by decide) ?_
        exact cf_roEnd hx hb hr hlocks (by simp only [mf_fst, if_neg c_1, if_neg c_2, if_neg c_3, if_neg cf_n10, if_pos cf_p00, ↓reduceIte]) dX1_firstOf_40
      · skip
        refine lv_iload_n hx hb dX1_firstOf_35 rfl (lv_at hl 3 rfl) ?_
        refine lv_goto (tgt := 40) hx hb dX1_firstOf_36 (by decide) ?_
        exact cf_roEnd hx hb hr hlocks (by simp only [mf_fst, if_neg c_1, if_neg c_2, if_pos c_3, if_neg cf_n10, if_pos cf_p00, ↓reduceIte]) dX1_firstOf_40
    · skip
      refine lv_iload_n hx hb dX1_firstOf_22 rfl (lv_at hl 2 rfl) ?_
      refine lv_goto (tgt := 40) hx hb dX1_firstOf_23 (by decide) ?_
      exact cf_roEnd hx hb hr hlocks (by simp only [mf_fst, if_neg c_1, if_pos c_2, if_neg cf_n10, if_pos cf_p00, ↓reduceIte]) dX1_firstOf_40
  · skip
    refine lv_iload_n hx hb dX1_firstOf_9 rfl (lv_at hl 1 rfl) ?_
    refine lv_goto (tgt := 40) hx hb dX1_firstOf_10 (by decide) ?_
    exact cf_roEnd hx hb hr hlocks (by simp only [mf_fst, if_pos c_1, if_neg cf_n10, if_pos cf_p00, ↓reduceIte]) dX1_firstOf_40
set_option maxHeartbeats 4000000 in
set_option maxRecDepth 100000 in
theorem m_has (l : Launch) (D : va_G) (z : Nat → Nat) (h0 h1 : Nat) (cA : ClassId) (k : Nat → Int32) (md : Int32) (tm al : Int64) (ln od : Int32) (x : Int32) (b : Int32) (j : Nat) (hj : j < 29) (hxj : x = nI j) : Met l yX1_has wsX1_has ({ frames := 0, cells := 0, slots := 0, locals := 0 } : Room) (cf_ro [.ref h0, .int x, .int b] D (cf_W 1 h0 h1 cA k md tm al ln od) [(cA, .int)] z) (vp_Si (fun r => r = mf_has k j b)) 0 0 (fun _ => False) := by
  refine Met.ofW (cc := cX1_has) (maxL := 3) (ret := (some .boolean)) (by decide) rfl ?_
  intro p e s m args below meth c s₁ B hml hv
  obtain ⟨rfl, hP, hK, hZ⟩ := hv
  have hx := B.exec
  have hb := B.bytes
  have hr := B.returns
  have hts := atoms_spec (ws := wsX1_has) B.pre
  have hown : s.vm.findClass RX1 = some m.cls := findClass_of_methodNamed B.named
  have hlocks := B.notSynchronized
  have hin0 : ∀ w ∈ wsX10, w ∈ wsX1_has := by decide +kernel
  have hS : va_S (fun _ => False) s.heap s.heap [] := va_S.rf
  have hl := lv_entry ([.ref h0, .int x, .int b]) (n := 3) (Nat.le_of_ble_eq_true rfl)
  rw [lg_entry_eq]
  generalize (lg_sl ([.ref h0, .int x, .int b]) ++ List.replicate (3 - (lg_sl ([.ref h0, .int x, .int b])).length) Slot.unset).toArray = ls at hl ⊢
  have hl : lv_has ls 3 [(0, .ref h0), (1, .int x), (2, .int b)] := hl
  refine lv_aload_n hx hb dX1_has_0 rfl (lv_at hl 0 rfl) ?_
  refine va_get (D := D) (ci := 1) (v := .ref h1) (C := RX1) (T := TX1) (N := 6) hx hb hts hin0 hown hK hP 0 rfl rfl 0 (by decide) (hts (.fieldLink RX1 7 "ControlFileModel" "kept" "[I") (by decide +kernel)) (fun _ h9 => h9) rfl dX1_has_1 ?_
  refine lv_iload_n hx hb dX1_has_4 rfl (lv_at hl 1 rfl) ?_
  refine cf_ld j hx hb hK hP 1 0 rfl rfl hxj hj dX1_has_5 ?_
  refine lv_iload_n hx hb dX1_has_6 rfl (lv_at hl 2 rfl) ?_
  refine lv_ishr hx hb dX1_has_7 ?_
  refine lv_iconst (v := 1) hx hb dX1_has_8 (by decide) ?_
  refine lv_iand hx hb dX1_has_9 ?_
  refine lv_iconst (v := 1) hx hb dX1_has_10 (by decide) ?_
  refine lv_icmp_ne (tgt := 18) hx hb dX1_has_11 (by decide) (fun c_1 => ?_) (fun c_1 => ?_)
  · skip
    refine lv_iconst (v := 0) hx hb dX1_has_18 (by decide) ?_
    exact cf_roEndZ hx hb hr hlocks rfl (by simp only [mf_has, if_neg c_1, if_neg cf_n10, if_pos cf_p00, ↓reduceIte]) dX1_has_19
  · skip
    refine lv_iconst (v := 1) hx hb dX1_has_14 (by decide) ?_
    refine lv_goto (tgt := 19) hx hb dX1_has_15 (by decide) ?_
    exact cf_roEndZ hx hb hr hlocks rfl (by simp only [mf_has, if_pos c_1, if_neg cf_n10, if_pos cf_p00, ↓reduceIte]) dX1_has_19
set_option maxHeartbeats 4000000 in
set_option maxRecDepth 100000 in
theorem m_tells (l : Launch) (D : va_G) (z : Nat → Nat) (h0 h1 : Nat) (cA : ClassId) (k : Nat → Int32) (md : Int32) (tm al : Int64) (ln od : Int32) (x : Int32) (hin : vp_in x 29) : Met l yX1_tells wsX1_tells ({ frames := 0, cells := 0, slots := 0, locals := 0 } : Room) (cf_ro [.ref h0, .int x] D (cf_W 1 h0 h1 cA k md tm al ln od) [(cA, .int)] z) (vp_Si (fun r => r = mf_tell k tm al ln x)) 0 0 (fun _ => False) := by
  refine Met.ofW (cc := cX1_tells) (maxL := 2) (ret := (some .int)) (by decide) rfl ?_
  intro p e s m args below meth c s₁ B hml hv
  obtain ⟨rfl, hP, hK, hZ⟩ := hv
  have hx := B.exec
  have hb := B.bytes
  have hr := B.returns
  have hts := atoms_spec (ws := wsX1_tells) B.pre
  have hown : s.vm.findClass RX1 = some m.cls := findClass_of_methodNamed B.named
  have hlocks := B.notSynchronized
  have hin0 : ∀ w ∈ wsX10, w ∈ wsX1_tells := by decide +kernel
  have hS : va_S (fun _ => False) s.heap s.heap [] := va_S.rf
  have hl := lv_entry ([.ref h0, .int x]) (n := 2) (Nat.le_of_ble_eq_true rfl)
  rw [lg_entry_eq]
  generalize (lg_sl ([.ref h0, .int x]) ++ List.replicate (2 - (lg_sl ([.ref h0, .int x])).length) Slot.unset).toArray = ls at hl ⊢
  have hl : lv_has ls 2 [(0, .ref h0), (1, .int x)] := hl
  refine lv_iload_n hx hb dX1_tells_0 rfl (lv_at hl 1 rfl) ?_
  by_cases c_1 : x = 7
  · skip
    refine lv_lookup (off := 59) (tgt := 60) hx hb dX1_tells_1 (by decide) (by rw [c_1]; decide) (by decide) ?_
    refine lv_aload_n hx hb dX1_tells_60 rfl (lv_at hl 0 rfl) ?_
    refine va_get (D := D) (ci := 1) (v := .ref h1) (C := RX1) (T := TX1) (N := 6) hx hb hts hin0 hown hK hP 0 rfl rfl 0 (by decide) (hts (.fieldLink RX1 7 "ControlFileModel" "kept" "[I") (by decide +kernel)) (fun _ h9 => h9) rfl dX1_tells_61 ?_
    refine lv_bipush (v := 7) hx hb dX1_tells_64 (by decide) ?_
    refine cf_ld 7 hx hb hK hP 1 0 rfl rfl rfl (by decide) dX1_tells_66 ?_
    refine lv_aload_n hx hb dX1_tells_67 rfl (lv_at hl 0 rfl) ?_
    refine va_get (D := D) (ci := 1) (v := .long tm) (C := RX1) (T := TX1) (N := 6) hx hb hts hin0 hown hK hP 0 rfl rfl 2 (by decide) (hts (.fieldLink RX1 20 "ControlFileModel" "time" "J") (by decide +kernel)) (fun _ h9 => h9) rfl dX1_tells_68 ?_
    refine lv_aload_n hx hb dX1_tells_71 rfl (lv_at hl 0 rfl) ?_
    refine va_get (D := D) (ci := 1) (v := .long al) (C := RX1) (T := TX1) (N := 6) hx hb hts hin0 hown hK hP 0 rfl rfl 3 (by decide) (hts (.fieldLink RX1 26 "ControlFileModel" "alarm" "J") (by decide +kernel)) (fun _ h9 => h9) rfl dX1_tells_72 ?_
    refine W.lcmp hx hb dX1_tells_75 ?_
    refine lv_if_lt (tgt := 84) hx hb dX1_tells_76 (by decide) (fun c_2 => ?_) (fun c_2 => ?_)
    · skip
      refine lv_iconst (v := 0) hx hb dX1_tells_84 (by decide) ?_
      refine lv_ior hx hb dX1_tells_85 ?_
      refine lv_aload_n hx hb dX1_tells_86 rfl (lv_at hl 0 rfl) ?_
      refine va_get (D := D) (ci := 1) (v := .int ln) (C := RX1) (T := TX1) (N := 6) hx hb hts hin0 hown hK hP 0 rfl rfl 4 (by decide) (hts (.fieldLink RX1 29 "ControlFileModel" "line" "Z") (by decide +kernel)) (fun _ h9 => h9) rfl dX1_tells_87 ?_
      refine lv_if_eq (tgt := 99) hx hb dX1_tells_90 (by decide) (fun c_3 => ?_) (fun c_3 => ?_)
      · skip
        refine lv_iconst (v := 0) hx hb dX1_tells_99 (by decide) ?_
        refine lv_ior hx hb dX1_tells_100 ?_
        exact cf_roEnd hx hb hr hlocks (by simp only [mf_tell, mf_pend, if_pos c_1, if_pos c_2, if_pos c_3, if_neg cf_n10, if_pos cf_p00, ↓reduceIte]) dX1_tells_101
      · skip
        refine lv_sipush (v := 512) hx hb dX1_tells_93 (by decide) ?_
        refine lv_goto (tgt := 100) hx hb dX1_tells_96 (by decide) ?_
        refine lv_ior hx hb dX1_tells_100 ?_
        exact cf_roEnd hx hb hr hlocks (by simp only [mf_tell, mf_pend, if_pos c_1, if_pos c_2, if_neg c_3, if_neg cf_n10, if_pos cf_p00, ↓reduceIte]) dX1_tells_101
    · skip
      refine lv_bipush (v := 32) hx hb dX1_tells_79 (by decide) ?_
      refine lv_goto (tgt := 85) hx hb dX1_tells_81 (by decide) ?_
      refine lv_ior hx hb dX1_tells_85 ?_
      refine lv_aload_n hx hb dX1_tells_86 rfl (lv_at hl 0 rfl) ?_
      refine va_get (D := D) (ci := 1) (v := .int ln) (C := RX1) (T := TX1) (N := 6) hx hb hts hin0 hown hK hP 0 rfl rfl 4 (by decide) (hts (.fieldLink RX1 29 "ControlFileModel" "line" "Z") (by decide +kernel)) (fun _ h9 => h9) rfl dX1_tells_87 ?_
      refine lv_if_eq (tgt := 99) hx hb dX1_tells_90 (by decide) (fun c_4 => ?_) (fun c_4 => ?_)
      · skip
        refine lv_iconst (v := 0) hx hb dX1_tells_99 (by decide) ?_
        refine lv_ior hx hb dX1_tells_100 ?_
        exact cf_roEnd hx hb hr hlocks (by simp only [mf_tell, mf_pend, if_pos c_1, if_neg c_2, if_pos c_4, if_neg cf_n10, if_pos cf_p00, ↓reduceIte]) dX1_tells_101
      · skip
        refine lv_sipush (v := 512) hx hb dX1_tells_93 (by decide) ?_
        refine lv_goto (tgt := 100) hx hb dX1_tells_96 (by decide) ?_
        refine lv_ior hx hb dX1_tells_100 ?_
        exact cf_roEnd hx hb hr hlocks (by simp only [mf_tell, mf_pend, if_pos c_1, if_neg c_2, if_neg c_4, if_neg cf_n10, if_pos cf_p00, ↓reduceIte]) dX1_tells_101
  by_cases c_5 : x = 10
  · skip
    refine lv_lookup (off := 101) (tgt := 102) hx hb dX1_tells_1 (by decide) (by rw [c_5]; decide) (by decide) ?_
    refine lv_aload_n hx hb dX1_tells_102 rfl (lv_at hl 0 rfl) ?_
    refine va_get (D := D) (ci := 1) (v := .ref h1) (C := RX1) (T := TX1) (N := 6) hx hb hts hin0 hown hK hP 0 rfl rfl 0 (by decide) (hts (.fieldLink RX1 7 "ControlFileModel" "kept" "[I") (by decide +kernel)) (fun _ h9 => h9) rfl dX1_tells_103 ?_
    refine lv_bipush (v := 21) hx hb dX1_tells_106 (by decide) ?_
    refine cf_ld 21 hx hb hK hP 1 0 rfl rfl rfl (by decide) dX1_tells_108 ?_
    refine lv_aload_n hx hb dX1_tells_109 rfl (lv_at hl 0 rfl) ?_
    refine va_get (D := D) (ci := 1) (v := .ref h1) (C := RX1) (T := TX1) (N := 6) hx hb hts hin0 hown hK hP 0 rfl rfl 0 (by decide) (hts (.fieldLink RX1 7 "ControlFileModel" "kept" "[I") (by decide +kernel)) (fun _ h9 => h9) rfl dX1_tells_110 ?_
    refine lv_bipush (v := 20) hx hb dX1_tells_113 (by decide) ?_
    refine cf_ld 20 hx hb hK hP 1 0 rfl rfl rfl (by decide) dX1_tells_115 ?_
    refine lv_iand hx hb dX1_tells_116 ?_
    refine lv_iconst (v := 1) hx hb dX1_tells_117 (by decide) ?_
    refine lv_ishr hx hb dX1_tells_118 ?_
    exact cf_roEnd hx hb hr hlocks (by simp only [mf_tell, mf_pend, if_neg c_1, if_pos c_5, if_neg cf_n10, if_pos cf_p00, ↓reduceIte]) dX1_tells_119
  by_cases c_6 : x = 16
  · skip
    refine lv_lookup (off := 119) (tgt := 120) hx hb dX1_tells_1 (by decide) (by rw [c_6]; decide) (by decide) ?_
    refine lv_aload_n hx hb dX1_tells_120 rfl (lv_at hl 0 rfl) ?_
    refine va_get (D := D) (ci := 1) (v := .ref h1) (C := RX1) (T := TX1) (N := 6) hx hb hts hin0 hown hK hP 0 rfl rfl 0 (by decide) (hts (.fieldLink RX1 7 "ControlFileModel" "kept" "[I") (by decide +kernel)) (fun _ h9 => h9) rfl dX1_tells_121 ?_
    refine lv_bipush (v := 24) hx hb dX1_tells_124 (by decide) ?_
    refine cf_ld 24 hx hb hK hP 1 0 rfl rfl rfl (by decide) dX1_tells_126 ?_
    refine lv_aload_n hx hb dX1_tells_127 rfl (lv_at hl 0 rfl) ?_
    refine va_get (D := D) (ci := 1) (v := .ref h1) (C := RX1) (T := TX1) (N := 6) hx hb hts hin0 hown hK hP 0 rfl rfl 0 (by decide) (hts (.fieldLink RX1 7 "ControlFileModel" "kept" "[I") (by decide +kernel)) (fun _ h9 => h9) rfl dX1_tells_128 ?_
    refine lv_bipush (v := 20) hx hb dX1_tells_131 (by decide) ?_
    refine cf_ld 20 hx hb hK hP 1 0 rfl rfl rfl (by decide) dX1_tells_133 ?_
    refine lv_iand hx hb dX1_tells_134 ?_
    refine lv_iconst (v := 1) hx hb dX1_tells_135 (by decide) ?_
    refine lv_ishr hx hb dX1_tells_136 ?_
    exact cf_roEnd hx hb hr hlocks (by simp only [mf_tell, mf_pend, if_neg c_1, if_neg c_5, if_pos c_6, if_neg cf_n10, if_pos cf_p00, ↓reduceIte]) dX1_tells_137
  by_cases c_7 : x = 23
  · skip
    refine lv_lookup (off := 137) (tgt := 138) hx hb dX1_tells_1 (by decide) (by rw [c_7]; decide) (by decide) ?_
    refine lv_aload_n hx hb dX1_tells_138 rfl (lv_at hl 0 rfl) ?_
    refine va_get (D := D) (ci := 1) (v := .ref h1) (C := RX1) (T := TX1) (N := 6) hx hb hts hin0 hown hK hP 0 rfl rfl 0 (by decide) (hts (.fieldLink RX1 7 "ControlFileModel" "kept" "[I") (by decide +kernel)) (fun _ h9 => h9) rfl dX1_tells_139 ?_
    refine lv_bipush (v := 24) hx hb dX1_tells_142 (by decide) ?_
    refine cf_ld 24 hx hb hK hP 1 0 rfl rfl rfl (by decide) dX1_tells_144 ?_
    exact cf_roEnd hx hb hr hlocks (by simp only [mf_tell, mf_pend, if_neg c_1, if_neg c_5, if_neg c_6, if_pos c_7, if_neg cf_n10, if_pos cf_p00, ↓reduceIte]) dX1_tells_145
  by_cases c_8 : x = 27
  · skip
    refine lv_lookup (off := 145) (tgt := 146) hx hb dX1_tells_1 (by decide) (by rw [c_8]; decide) (by decide) ?_
    refine lv_aload_n hx hb dX1_tells_146 rfl (lv_at hl 0 rfl) ?_
    refine va_get (D := D) (ci := 1) (v := .long tm) (C := RX1) (T := TX1) (N := 6) hx hb hts hin0 hown hK hP 0 rfl rfl 2 (by decide) (hts (.fieldLink RX1 20 "ControlFileModel" "time" "J") (by decide +kernel)) (fun _ h9 => h9) rfl dX1_tells_147 ?_
    refine lv_l2i (v := tm.toInt32) hx hb dX1_tells_150 rfl ?_
    exact cf_roEnd hx hb hr hlocks (by simp only [mf_tell, mf_pend, if_neg c_1, if_neg c_5, if_neg c_6, if_neg c_7, if_pos c_8, if_neg cf_n10, if_pos cf_p00, ↓reduceIte]) dX1_tells_151
  by_cases c_9 : x = 28
  · skip
    refine lv_lookup (off := 151) (tgt := 152) hx hb dX1_tells_1 (by decide) (by rw [c_9]; decide) (by decide) ?_
    refine lv_aload_n hx hb dX1_tells_152 rfl (lv_at hl 0 rfl) ?_
    refine va_get (D := D) (ci := 1) (v := .long tm) (C := RX1) (T := TX1) (N := 6) hx hb hts hin0 hown hK hP 0 rfl rfl 2 (by decide) (hts (.fieldLink RX1 20 "ControlFileModel" "time" "J") (by decide +kernel)) (fun _ h9 => h9) rfl dX1_tells_153 ?_
    refine lv_bipush (v := 32) hx hb dX1_tells_156 (by decide) ?_
    refine lv_lshr (v := cf_lsh tm 32) hx hb dX1_tells_158 rfl ?_
    refine lv_l2i (v := (cf_lsh tm 32).toInt32) hx hb dX1_tells_159 rfl ?_
    exact cf_roEnd hx hb hr hlocks (by simp only [mf_tell, mf_pend, if_neg c_1, if_neg c_5, if_neg c_6, if_neg c_7, if_neg c_8, if_pos c_9, if_neg cf_n10, if_pos cf_p00, ↓reduceIte]) dX1_tells_160
  refine lv_lookup (off := 160) (tgt := 161) hx hb dX1_tells_1 (by decide) (show Op.lookupswitch.offset [(7, 59), (10, 101), (16, 119), (23, 137), (27, 145), (28, 151)] 160 (x).toInt = 160 by rw [Op.lookupswitch.offset_cons, if_neg (cf_ne (a := 7) (by decide) c_1), Op.lookupswitch.offset_cons, if_neg (cf_ne (a := 10) (by decide) c_5), Op.lookupswitch.offset_cons, if_neg (cf_ne (a := 16) (by decide) c_6), Op.lookupswitch.offset_cons, if_neg (cf_ne (a := 23) (by decide) c_7), Op.lookupswitch.offset_cons, if_neg (cf_ne (a := 27) (by decide) c_8), Op.lookupswitch.offset_cons, if_neg (cf_ne (a := 28) (by decide) c_9), Op.lookupswitch.offset_nil]) (by decide) ?_
  refine lv_aload_n hx hb dX1_tells_161 rfl (lv_at hl 0 rfl) ?_
  refine va_get (D := D) (ci := 1) (v := .ref h1) (C := RX1) (T := TX1) (N := 6) hx hb hts hin0 hown hK hP 0 rfl rfl 0 (by decide) (hts (.fieldLink RX1 7 "ControlFileModel" "kept" "[I") (by decide +kernel)) (fun _ h9 => h9) rfl dX1_tells_162 ?_
  refine lv_iload_n hx hb dX1_tells_165 rfl (lv_at hl 1 rfl) ?_
  refine va_iald hx hb hK hP 1 0 rfl rfl hin dX1_tells_166 ?_
  exact cf_roEnd hx hb hr hlocks (by simp only [mf_tell, mf_pend, if_neg c_1, if_neg c_5, if_neg c_6, if_neg c_7, if_neg c_8, if_neg c_9, if_neg cf_n10, if_pos cf_p00, ↓reduceIte]) dX1_tells_167
set_option maxHeartbeats 4000000 in
set_option maxRecDepth 100000 in
theorem m_maskOf (l : Launch) (D : va_G) (z : Nat → Nat) (x : Int32) (hin : vp_in x 29) : Met l yX1_maskOf wsX1_maskOf ({ frames := 0, cells := 0, slots := 0, locals := 0 } : Room) (cf_ro [.int x] D [] [] z) (vp_Si (fun r => r = mf_mask x)) 0 0 (fun _ => False) := by
  refine Met.ofW (cc := cX1_maskOf) (maxL := 1) (ret := (some .int)) (by decide) rfl ?_
  intro p e s m args below meth c s₁ B hml hv
  obtain ⟨rfl, hP, hK, hZ⟩ := hv
  have hx := B.exec
  have hb := B.bytes
  have hr := B.returns
  have hts := atoms_spec (ws := wsX1_maskOf) B.pre
  have hown : s.vm.findClass RX1 = some m.cls := findClass_of_methodNamed B.named
  have hlocks := B.notSynchronized
  have hS : va_S (fun _ => False) s.heap s.heap [] := va_S.rf
  have hl := lv_entry ([.int x]) (n := 1) (Nat.le_of_ble_eq_true rfl)
  rw [lg_entry_eq]
  generalize (lg_sl ([.int x]) ++ List.replicate (1 - (lg_sl ([.int x])).length) Slot.unset).toArray = ls at hl ⊢
  have hl : lv_has ls 1 [(0, .int x)] := hl
  refine lv_iload_n hx hb dX1_maskOf_0 rfl (lv_at hl 0 rfl) ?_
  obtain ⟨j, hj, rfl⟩ := vp_in_of hin (by decide)
  rcases (show j = 0 ∨ j = 1 ∨ j = 2 ∨ j = 3 ∨ j = 4 ∨ j = 5 ∨ j = 6 ∨ j = 7 ∨ j = 8 ∨ j = 9 ∨ j = 10 ∨ j = 11 ∨ j = 12 ∨ j = 13 ∨ j = 14 ∨ j = 15 ∨ j = 16 ∨ j = 17 ∨ j = 18 ∨ j = 19 ∨ j = 20 ∨ j = 21 ∨ j = 22 ∨ j = 23 ∨ j = 24 ∨ j = 25 ∨ j = 26 ∨ j = 27 ∨ j = 28 by omega) with rfl | rfl | rfl | rfl | rfl | rfl | rfl | rfl | rfl | rfl | rfl | rfl | rfl | rfl | rfl | rfl | rfl | rfl | rfl | rfl | rfl | rfl | rfl | rfl | rfl | rfl | rfl | rfl | rfl
  · skip
    refine lv_tableIn (off := 123) (tgt := 124) hx hb dX1_maskOf_1 (by decide) (by decide) rfl (by decide) ?_
    refine lv_ldc (own := RX1) (v := 786722) hx hb hown (hts (.constant RX1 45 786722) (by decide +kernel)) dX1_maskOf_124 ?_
    exact cf_roEnd hx hb hr hlocks (by decide) dX1_maskOf_126
  · skip
    refine lv_tableIn (off := 126) (tgt := 127) hx hb dX1_maskOf_1 (by decide) (by decide) rfl (by decide) ?_
    refine lv_sipush (v := 546) hx hb dX1_maskOf_127 (by decide) ?_
    exact cf_roEnd hx hb hr hlocks (by decide) dX1_maskOf_130
  · skip
    refine lv_tableIn (off := 130) (tgt := 131) hx hb dX1_maskOf_1 (by decide) (by decide) rfl (by decide) ?_
    refine lv_bipush (v := -3) hx hb dX1_maskOf_131 (by decide) ?_
    exact cf_roEnd hx hb hr hlocks (by decide) dX1_maskOf_133
  · skip
    refine lv_tableIn (off := 154) (tgt := 155) hx hb dX1_maskOf_1 (by decide) (by decide) rfl (by decide) ?_
    refine lv_iconst (v := -1) hx hb dX1_maskOf_155 (by decide) ?_
    exact cf_roEnd hx hb hr hlocks (by decide) dX1_maskOf_156
  · skip
    refine lv_tableIn (off := 133) (tgt := 134) hx hb dX1_maskOf_1 (by decide) (by decide) rfl (by decide) ?_
    refine lv_bipush (v := -4) hx hb dX1_maskOf_134 (by decide) ?_
    exact cf_roEnd hx hb hr hlocks (by decide) dX1_maskOf_136
  · skip
    refine lv_tableIn (off := 154) (tgt := 155) hx hb dX1_maskOf_1 (by decide) (by decide) rfl (by decide) ?_
    refine lv_iconst (v := -1) hx hb dX1_maskOf_155 (by decide) ?_
    exact cf_roEnd hx hb hr hlocks (by decide) dX1_maskOf_156
  · skip
    refine lv_tableIn (off := 154) (tgt := 155) hx hb dX1_maskOf_1 (by decide) (by decide) rfl (by decide) ?_
    refine lv_iconst (v := -1) hx hb dX1_maskOf_155 (by decide) ?_
    exact cf_roEnd hx hb hr hlocks (by decide) dX1_maskOf_156
  · skip
    refine lv_tableIn (off := 139) (tgt := 140) hx hb dX1_maskOf_1 (by decide) (by decide) rfl (by decide) ?_
    refine lv_iconst (v := 2) hx hb dX1_maskOf_140 (by decide) ?_
    exact cf_roEnd hx hb hr hlocks (by decide) dX1_maskOf_141
  · skip
    refine lv_tableIn (off := 136) (tgt := 137) hx hb dX1_maskOf_1 (by decide) (by decide) rfl (by decide) ?_
    refine lv_ldc (own := RX1) (v := -2143289345) hx hb hown (hts (.constant RX1 46 (-2143289345)) (by decide +kernel)) dX1_maskOf_137 ?_
    exact cf_roEnd hx hb hr hlocks (by decide) dX1_maskOf_139
  · skip
    refine lv_tableIn (off := 123) (tgt := 124) hx hb dX1_maskOf_1 (by decide) (by decide) rfl (by decide) ?_
    refine lv_ldc (own := RX1) (v := 786722) hx hb hown (hts (.constant RX1 45 786722) (by decide +kernel)) dX1_maskOf_124 ?_
    exact cf_roEnd hx hb hr hlocks (by decide) dX1_maskOf_126
  · skip
    refine lv_tableIn (off := 154) (tgt := 155) hx hb dX1_maskOf_1 (by decide) (by decide) rfl (by decide) ?_
    refine lv_iconst (v := -1) hx hb dX1_maskOf_155 (by decide) ?_
    exact cf_roEnd hx hb hr hlocks (by decide) dX1_maskOf_156
  · skip
    refine lv_tableIn (off := 130) (tgt := 131) hx hb dX1_maskOf_1 (by decide) (by decide) rfl (by decide) ?_
    refine lv_bipush (v := -3) hx hb dX1_maskOf_131 (by decide) ?_
    exact cf_roEnd hx hb hr hlocks (by decide) dX1_maskOf_133
  · skip
    refine lv_tableIn (off := 154) (tgt := 155) hx hb dX1_maskOf_1 (by decide) (by decide) rfl (by decide) ?_
    refine lv_iconst (v := -1) hx hb dX1_maskOf_155 (by decide) ?_
    exact cf_roEnd hx hb hr hlocks (by decide) dX1_maskOf_156
  · skip
    refine lv_tableIn (off := 133) (tgt := 134) hx hb dX1_maskOf_1 (by decide) (by decide) rfl (by decide) ?_
    refine lv_bipush (v := -4) hx hb dX1_maskOf_134 (by decide) ?_
    exact cf_roEnd hx hb hr hlocks (by decide) dX1_maskOf_136
  · skip
    refine lv_tableIn (off := 154) (tgt := 155) hx hb dX1_maskOf_1 (by decide) (by decide) rfl (by decide) ?_
    refine lv_iconst (v := -1) hx hb dX1_maskOf_155 (by decide) ?_
    exact cf_roEnd hx hb hr hlocks (by decide) dX1_maskOf_156
  · skip
    refine lv_tableIn (off := 154) (tgt := 155) hx hb dX1_maskOf_1 (by decide) (by decide) rfl (by decide) ?_
    refine lv_iconst (v := -1) hx hb dX1_maskOf_155 (by decide) ?_
    exact cf_roEnd hx hb hr hlocks (by decide) dX1_maskOf_156
  · skip
    refine lv_tableIn (off := 154) (tgt := 155) hx hb dX1_maskOf_1 (by decide) (by decide) rfl (by decide) ?_
    refine lv_iconst (v := -1) hx hb dX1_maskOf_155 (by decide) ?_
    exact cf_roEnd hx hb hr hlocks (by decide) dX1_maskOf_156
  · skip
    refine lv_tableIn (off := 136) (tgt := 137) hx hb dX1_maskOf_1 (by decide) (by decide) rfl (by decide) ?_
    refine lv_ldc (own := RX1) (v := -2143289345) hx hb hown (hts (.constant RX1 46 (-2143289345)) (by decide +kernel)) dX1_maskOf_137 ?_
    exact cf_roEnd hx hb hr hlocks (by decide) dX1_maskOf_139
  · skip
    refine lv_tableIn (off := 141) (tgt := 142) hx hb dX1_maskOf_1 (by decide) (by decide) rfl (by decide) ?_
    refine lv_ldc (own := RX1) (v := 7340992) hx hb hown (hts (.constant RX1 47 7340992) (by decide +kernel)) dX1_maskOf_142 ?_
    exact cf_roEnd hx hb hr hlocks (by decide) dX1_maskOf_144
  · skip
    refine lv_tableIn (off := 144) (tgt := 145) hx hb dX1_maskOf_1 (by decide) (by decide) rfl (by decide) ?_
    refine lv_ldc (own := RX1) (v := 45567) hx hb hown (hts (.constant RX1 48 45567) (by decide +kernel)) dX1_maskOf_145 ?_
    exact cf_roEnd hx hb hr hlocks (by decide) dX1_maskOf_147
  · skip
    refine lv_tableIn (off := 147) (tgt := 148) hx hb dX1_maskOf_1 (by decide) (by decide) rfl (by decide) ?_
    refine lv_sipush (v := 1092) hx hb dX1_maskOf_148 (by decide) ?_
    exact cf_roEnd hx hb hr hlocks (by decide) dX1_maskOf_151
  · skip
    refine lv_tableIn (off := 147) (tgt := 148) hx hb dX1_maskOf_1 (by decide) (by decide) rfl (by decide) ?_
    refine lv_sipush (v := 1092) hx hb dX1_maskOf_148 (by decide) ?_
    exact cf_roEnd hx hb hr hlocks (by decide) dX1_maskOf_151
  · skip
    refine lv_tableIn (off := 154) (tgt := 155) hx hb dX1_maskOf_1 (by decide) (by decide) rfl (by decide) ?_
    refine lv_iconst (v := -1) hx hb dX1_maskOf_155 (by decide) ?_
    exact cf_roEnd hx hb hr hlocks (by decide) dX1_maskOf_156
  · skip
    refine lv_tableIn (off := 154) (tgt := 155) hx hb dX1_maskOf_1 (by decide) (by decide) rfl (by decide) ?_
    refine lv_iconst (v := -1) hx hb dX1_maskOf_155 (by decide) ?_
    exact cf_roEnd hx hb hr hlocks (by decide) dX1_maskOf_156
  · skip
    refine lv_tableIn (off := 147) (tgt := 148) hx hb dX1_maskOf_1 (by decide) (by decide) rfl (by decide) ?_
    refine lv_sipush (v := 1092) hx hb dX1_maskOf_148 (by decide) ?_
    exact cf_roEnd hx hb hr hlocks (by decide) dX1_maskOf_151
  · skip
    refine lv_tableIn (off := 154) (tgt := 155) hx hb dX1_maskOf_1 (by decide) (by decide) rfl (by decide) ?_
    refine lv_iconst (v := -1) hx hb dX1_maskOf_155 (by decide) ?_
    exact cf_roEnd hx hb hr hlocks (by decide) dX1_maskOf_156
  · skip
    refine lv_tableIn (off := 151) (tgt := 152) hx hb dX1_maskOf_1 (by decide) (by decide) rfl (by decide) ?_
    refine lv_ldc (own := RX1) (v := -2143289348) hx hb hown (hts (.constant RX1 49 (-2143289348)) (by decide +kernel)) dX1_maskOf_152 ?_
    exact cf_roEnd hx hb hr hlocks (by decide) dX1_maskOf_154
  · skip
    refine lv_tableOut (tgt := 155) hx hb dX1_maskOf_1 (Or.inr (by decide)) (by decide) ?_
    refine lv_iconst (v := -1) hx hb dX1_maskOf_155 (by decide) ?_
    exact cf_roEnd hx hb hr hlocks (by decide) dX1_maskOf_156
  · skip
    refine lv_tableOut (tgt := 155) hx hb dX1_maskOf_1 (Or.inr (by decide)) (by decide) ?_
    refine lv_iconst (v := -1) hx hb dX1_maskOf_155 (by decide) ?_
    exact cf_roEnd hx hb hr hlocks (by decide) dX1_maskOf_156
set_option maxHeartbeats 4000000 in
set_option maxRecDepth 100000 in
theorem m_refusal (l : Launch) (D : va_G) (z : Nat → Nat) (h0 h1 : Nat) (cA : ClassId) (k : Nat → Int32) (md : Int32) (tm al : Int64) (ln od : Int32) (x : Int32) (w : Int32) : Met l yX1_refusal wsX1_refusal ({ frames := 1, cells := 0, slots := 0, locals := 22 } : Room) (cf_ro [.ref h0, .int x, .int w] D (cf_W 1 h0 h1 cA k md tm al ln od) [(cA, .int)] z) (vp_Si (fun r => r = mf_ref k md x w)) 0 0 (fun _ => False) := by
  refine Met.ofW (cc := cX1_refusal) (maxL := 5) (ret := (some .int)) (by decide) rfl ?_
  intro p e s m args below meth c s₁ B hml hv
  obtain ⟨rfl, hP, hK, hZ⟩ := hv
  have hx := B.exec
  have hb := B.bytes
  have hr := B.returns
  have hts := atoms_spec (ws := wsX1_refusal) B.pre
  have hown : s.vm.findClass RX1 = some m.cls := findClass_of_methodNamed B.named
  have hlocks := B.notSynchronized
  have hin0 : ∀ w ∈ wsX10, w ∈ wsX1_refusal := by decide +kernel
  have hS : va_S (fun _ => False) s.heap s.heap [] := va_S.rf
  have hl := lv_entry ([.ref h0, .int x, .int w]) (n := 5) (Nat.le_of_ble_eq_true rfl)
  rw [lg_entry_eq]
  generalize (lg_sl ([.ref h0, .int x, .int w]) ++ List.replicate (5 - (lg_sl ([.ref h0, .int x, .int w])).length) Slot.unset).toArray = ls at hl ⊢
  have hl : lv_has ls 5 [(0, .ref h0), (1, .int x), (2, .int w)] := hl
  refine lv_iload_n hx hb dX1_refusal_0 rfl (lv_at hl 1 rfl) ?_
  refine lv_bipush (v := 27) hx hb dX1_refusal_1 (by decide) ?_
  refine lv_icmp_eq (tgt := 12) hx hb dX1_refusal_3 (by decide) (fun c_1 => ?_) (fun c_1 => ?_)
  · skip
    refine lv_iconst (v := 1) hx hb dX1_refusal_12 (by decide) ?_
    refine lv_goto (tgt := 17) hx hb dX1_refusal_13 (by decide) ?_
    refine lv_istore_n (lv' := [(3, .int 1), (0, .ref h0), (1, .int x), (2, .int w)]) hx hb dX1_refusal_17 rfl hl (by decide) rfl (fun ls hl => ?_)
    refine lv_iload_n hx hb dX1_refusal_18 rfl (lv_at hl 2 rfl) ?_
    refine lv_iconst (v := -1) hx hb dX1_refusal_19 (by decide) ?_
    refine lv_icmp_eq (tgt := 31) hx hb dX1_refusal_20 (by decide) (fun c_2 => ?_) (fun c_2 => ?_)
    · skip
      refine lv_iconst (v := 2) hx hb dX1_refusal_31 (by decide) ?_
      exact cf_roEnd hx hb hr hlocks (by simp only [mf_ref, mf_ref2, cf_ofT, if_pos c_1, if_pos c_2, if_neg cf_n10, if_pos cf_p00, ↓reduceIte]) dX1_refusal_32
    · skip
      refine lv_iload_n hx hb dX1_refusal_23 rfl (lv_at hl 0 rfl) ?_
      refine lv_if_eq (tgt := 33) hx hb dX1_refusal_24 (by decide) (fun c_3 => ?_) (fun c_3 => ?_)
      · skip
        exact absurd c_3 (by decide)
      · skip
        refine lv_iload_n hx hb dX1_refusal_27 rfl (lv_at hl 3 rfl) ?_
        refine lv_if_eq (tgt := 33) hx hb dX1_refusal_28 (by decide) (fun c_4 => ?_) (fun c_4 => ?_)
        · skip
          refine lv_aload_n hx hb dX1_refusal_33 rfl (lv_at hl 1 rfl) ?_
          refine va_get (D := D) (ci := 1) (v := .int md) (C := RX1) (T := TX1) (N := 6) hx hb hts hin0 hown hK hP 0 rfl rfl 1 (by decide) (hts (.fieldLink RX1 16 "ControlFileModel" "mode" "I") (by decide +kernel)) (fun _ h9 => h9) rfl dX1_refusal_34 ?_
          refine lv_iconst (v := 1) hx hb dX1_refusal_37 (by decide) ?_
          refine lv_icmp_eq (tgt := 45) hx hb dX1_refusal_38 (by decide) (fun c_5 => ?_) (fun c_5 => ?_)
          · skip
            refine lv_iconst (v := 0) hx hb dX1_refusal_45 (by decide) ?_
            exact cf_roEnd hx hb hr hlocks (by simp only [mf_ref, mf_ref2, cf_ofT, if_pos c_1, if_neg c_2, if_neg c_3, if_pos c_4, if_pos c_5, if_neg cf_n10, if_pos cf_p00, ↓reduceIte]) dX1_refusal_46
          · skip
            refine lv_iload_n hx hb dX1_refusal_41 rfl (lv_at hl 0 rfl) ?_
            refine lv_if_eq (tgt := 47) hx hb dX1_refusal_42 (by decide) (fun c_6 => ?_) (fun c_6 => ?_)
            · skip
              exact absurd c_6 c_3
            · skip
              refine lv_iconst (v := 0) hx hb dX1_refusal_45 (by decide) ?_
              exact cf_roEnd hx hb hr hlocks (by simp only [mf_ref, mf_ref2, cf_ofT, if_pos c_1, if_neg c_2, if_neg c_3, if_pos c_4, if_neg c_5, if_neg c_6, if_neg cf_n10, if_pos cf_p00, ↓reduceIte]) dX1_refusal_46
        · skip
          refine lv_iconst (v := 2) hx hb dX1_refusal_31 (by decide) ?_
          exact cf_roEnd hx hb hr hlocks (by simp only [mf_ref, mf_ref2, cf_ofT, if_pos c_1, if_neg c_2, if_neg c_3, if_neg c_4, if_neg cf_n10, if_pos cf_p00, ↓reduceIte]) dX1_refusal_32
  · skip
    refine lv_iload_n hx hb dX1_refusal_6 rfl (lv_at hl 1 rfl) ?_
    refine lv_bipush (v := 28) hx hb dX1_refusal_7 (by decide) ?_
    refine lv_icmp_ne (tgt := 16) hx hb dX1_refusal_9 (by decide) (fun c_7 => ?_) (fun c_7 => ?_)
    · skip
      refine lv_iconst (v := 0) hx hb dX1_refusal_16 (by decide) ?_
      refine lv_istore_n (lv' := [(3, .int 0), (0, .ref h0), (1, .int x), (2, .int w)]) hx hb dX1_refusal_17 rfl hl (by decide) rfl (fun ls hl => ?_)
      refine lv_iload_n hx hb dX1_refusal_18 rfl (lv_at hl 2 rfl) ?_
      refine lv_iconst (v := -1) hx hb dX1_refusal_19 (by decide) ?_
      refine lv_icmp_eq (tgt := 31) hx hb dX1_refusal_20 (by decide) (fun c_8 => ?_) (fun c_8 => ?_)
      · skip
        refine lv_iconst (v := 2) hx hb dX1_refusal_31 (by decide) ?_
        exact cf_roEnd hx hb hr hlocks (by simp only [mf_ref, mf_ref2, cf_ofT, if_neg c_1, if_neg c_7, if_pos c_8, if_neg cf_n10, if_pos cf_p00, ↓reduceIte]) dX1_refusal_32
      · skip
        refine lv_iload_n hx hb dX1_refusal_23 rfl (lv_at hl 0 rfl) ?_
        refine lv_if_eq (tgt := 33) hx hb dX1_refusal_24 (by decide) (fun c_9 => ?_) (fun c_9 => ?_)
        · skip
          refine lv_aload_n hx hb dX1_refusal_33 rfl (lv_at hl 1 rfl) ?_
          refine va_get (D := D) (ci := 1) (v := .int md) (C := RX1) (T := TX1) (N := 6) hx hb hts hin0 hown hK hP 0 rfl rfl 1 (by decide) (hts (.fieldLink RX1 16 "ControlFileModel" "mode" "I") (by decide +kernel)) (fun _ h9 => h9) rfl dX1_refusal_34 ?_
          refine lv_iconst (v := 1) hx hb dX1_refusal_37 (by decide) ?_
          refine lv_icmp_eq (tgt := 45) hx hb dX1_refusal_38 (by decide) (fun c_10 => ?_) (fun c_10 => ?_)
          · skip
            refine lv_iconst (v := 0) hx hb dX1_refusal_45 (by decide) ?_
            exact cf_roEnd hx hb hr hlocks (by simp only [mf_ref, mf_ref2, cf_ofT, if_neg c_1, if_neg c_7, if_neg c_8, if_pos c_9, if_pos c_10, if_neg cf_n10, if_pos cf_p00, ↓reduceIte]) dX1_refusal_46
          · skip
            refine lv_iload_n hx hb dX1_refusal_41 rfl (lv_at hl 0 rfl) ?_
            refine lv_if_eq (tgt := 47) hx hb dX1_refusal_42 (by decide) (fun c_11 => ?_) (fun c_11 => ?_)
            · skip
              refine lv_aload_n hx hb dX1_refusal_47 rfl (lv_at hl 1 rfl) ?_
              refine va_get (D := D) (ci := 1) (v := .int md) (C := RX1) (T := TX1) (N := 6) hx hb hts hin0 hown hK hP 0 rfl rfl 1 (by decide) (hts (.fieldLink RX1 16 "ControlFileModel" "mode" "I") (by decide +kernel)) (fun _ h9 => h9) rfl dX1_refusal_48 ?_
              refine lv_if_ne (tgt := 56) hx hb dX1_refusal_51 (by decide) (fun c_12 => ?_) (fun c_12 => ?_)
              · skip
                refine lv_aload_n hx hb dX1_refusal_56 rfl (lv_at hl 1 rfl) ?_
                refine va_get (D := D) (ci := 1) (v := .int md) (C := RX1) (T := TX1) (N := 6) hx hb hts hin0 hown hK hP 0 rfl rfl 1 (by decide) (hts (.fieldLink RX1 16 "ControlFileModel" "mode" "I") (by decide +kernel)) (fun _ h9 => h9) rfl dX1_refusal_57 ?_
                refine lv_iconst (v := 3) hx hb dX1_refusal_60 (by decide) ?_
                refine lv_icmp_ne (tgt := 91) hx hb dX1_refusal_61 (by decide) (fun c_13 => ?_) (fun c_13 => ?_)
                · skip
                  refine lv_iconst (v := 0) hx hb dX1_refusal_91 (by decide) ?_
                  refine lv_istore (lv' := [(4, .int 0), (3, .int 0), (0, .ref h0), (1, .int x), (2, .int w)]) hx hb dX1_refusal_92 hl (by decide) rfl (fun ls hl => ?_)
                  refine lv_iload hx hb dX1_refusal_94 (lv_at hl 0 rfl) ?_
                  refine lv_if_eq (tgt := 103) hx hb dX1_refusal_96 (by decide) (fun c_14 => ?_) (fun c_14 => ?_)
                  · skip
                    refine lv_bipush (v := 22) hx hb dX1_refusal_103 (by decide) ?_
                    exact cf_roEnd hx hb hr hlocks (by simp only [mf_ref, mf_ref2, cf_ofT, if_neg c_1, if_neg c_7, if_neg c_8, if_pos c_9, if_neg c_10, if_pos c_11, if_neg c_12, if_neg c_13, if_pos c_14, if_neg cf_n10, if_pos cf_p00, ↓reduceIte]) dX1_refusal_105
                  · skip
                    exact absurd c_11 c_14
                · skip
                  refine lv_iload_n hx hb dX1_refusal_64 rfl (lv_at hl 2 rfl) ?_
                  refine lv_bipush (v := 8) hx hb dX1_refusal_65 (by decide) ?_
                  refine lv_icmp_gt (tgt := 91) hx hb dX1_refusal_67 (by decide) (fun c_15 => ?_) (fun c_15 => ?_)
                  · skip
                    refine lv_iconst (v := 0) hx hb dX1_refusal_91 (by decide) ?_
                    refine lv_istore (lv' := [(4, .int 0), (3, .int 0), (0, .ref h0), (1, .int x), (2, .int w)]) hx hb dX1_refusal_92 hl (by decide) rfl (fun ls hl => ?_)
                    refine lv_iload hx hb dX1_refusal_94 (lv_at hl 0 rfl) ?_
                    refine lv_if_eq (tgt := 103) hx hb dX1_refusal_96 (by decide) (fun c_16 => ?_) (fun c_16 => ?_)
                    · skip
                      refine lv_bipush (v := 22) hx hb dX1_refusal_103 (by decide) ?_
                      exact cf_roEnd hx hb hr hlocks (by simp only [mf_ref, mf_ref2, cf_ofT, if_neg c_1, if_neg c_7, if_neg c_8, if_pos c_9, if_neg c_10, if_pos c_11, if_neg c_12, if_pos c_13, if_pos c_15, if_pos c_16, if_neg cf_n10, if_pos cf_p00, ↓reduceIte]) dX1_refusal_105
                    · skip
                      exact absurd c_11 c_16
                  · skip
                    refine lv_iload_n hx hb dX1_refusal_70 rfl (lv_at hl 2 rfl) ?_
                    refine lv_bipush (v := 8) hx hb dX1_refusal_71 (by decide) ?_
                    refine lv_icmp_ne (tgt := 87) hx hb dX1_refusal_73 (by decide) (fun c_17 => ?_) (fun c_17 => ?_)
                    · skip
                      refine lv_iconst (v := 1) hx hb dX1_refusal_87 (by decide) ?_
                      refine lv_goto (tgt := 92) hx hb dX1_refusal_88 (by decide) ?_
                      refine lv_istore (lv' := [(4, .int 1), (3, .int 0), (0, .ref h0), (1, .int x), (2, .int w)]) hx hb dX1_refusal_92 hl (by decide) rfl (fun ls hl => ?_)
                      refine lv_iload hx hb dX1_refusal_94 (lv_at hl 0 rfl) ?_
                      refine lv_if_eq (tgt := 103) hx hb dX1_refusal_96 (by decide) (fun c_18 => ?_) (fun c_18 => ?_)
                      · skip
                        exact absurd c_18 (by decide)
                      · skip
                        refine lv_iconst (v := 0) hx hb dX1_refusal_99 (by decide) ?_
                        refine lv_goto (tgt := 105) hx hb dX1_refusal_100 (by decide) ?_
                        exact cf_roEnd hx hb hr hlocks (by simp only [mf_ref, mf_ref2, cf_ofT, if_neg c_1, if_neg c_7, if_neg c_8, if_pos c_9, if_neg c_10, if_pos c_11, if_neg c_12, if_pos c_13, if_neg c_15, if_neg c_17, if_neg c_18, if_neg cf_n10, if_pos cf_p00, ↓reduceIte]) dX1_refusal_105
                    · skip
                      refine lv_aload_n hx hb dX1_refusal_76 rfl (lv_at hl 1 rfl) ?_
                      refine lv_bipush (v := 18) hx hb dX1_refusal_77 (by decide) ?_
                      refine lv_bipush (v := 20) hx hb dX1_refusal_79 (by decide) ?_
                      refine cf_callV (As := [.int 18, .int 20]) (rest := []) ⟨hx, hb, hml, hown, hts⟩ (m_has l D z h0 h1 cA k md tm al ln od 18 20 18 (by decide) rfl) (cwV 2 hts gX1_refusal_X1_has rfl rfl rfl (by decide +kernel) ⟨Nat.le_of_ble_eq_true rfl, Nat.le_of_ble_eq_true rfl⟩) hP hK hZ hS (ci := 1) (q0 := 0) rfl rfl rfl rfl hl.1 rfl (Nat.le_of_ble_eq_true rfl) dX1_refusal_81 ⟨Nat.zero_le _, Nat.zero_le _⟩ ?_
                      refine lv_if_ne (tgt := 91) hx hb dX1_refusal_84 (by decide) (fun c_19 => ?_) (fun c_19 => ?_)
                      · skip
                        refine lv_iconst (v := 0) hx hb dX1_refusal_91 (by decide) ?_
                        refine lv_istore (lv' := [(4, .int 0), (3, .int 0), (0, .ref h0), (1, .int x), (2, .int w)]) hx hb dX1_refusal_92 hl (by decide) rfl (fun ls hl => ?_)
                        refine lv_iload hx hb dX1_refusal_94 (lv_at hl 0 rfl) ?_
                        refine lv_if_eq (tgt := 103) hx hb dX1_refusal_96 (by decide) (fun c_20 => ?_) (fun c_20 => ?_)
                        · skip
                          refine lv_bipush (v := 22) hx hb dX1_refusal_103 (by decide) ?_
                          exact cf_roEnd hx hb hr hlocks (by simp only [mf_ref, mf_ref2, cf_ofT, if_neg c_1, if_neg c_7, if_neg c_8, if_pos c_9, if_neg c_10, if_pos c_11, if_neg c_12, if_pos c_13, if_neg c_15, if_pos c_17, if_neg c_19, if_pos c_20, if_neg cf_n10, if_pos cf_p00, ↓reduceIte]) dX1_refusal_105
                        · skip
                          exact absurd c_11 c_20
                      · skip
                        refine lv_iconst (v := 1) hx hb dX1_refusal_87 (by decide) ?_
                        refine lv_goto (tgt := 92) hx hb dX1_refusal_88 (by decide) ?_
                        refine lv_istore (lv' := [(4, .int 1), (3, .int 0), (0, .ref h0), (1, .int x), (2, .int w)]) hx hb dX1_refusal_92 hl (by decide) rfl (fun ls hl => ?_)
                        refine lv_iload hx hb dX1_refusal_94 (lv_at hl 0 rfl) ?_
                        refine lv_if_eq (tgt := 103) hx hb dX1_refusal_96 (by decide) (fun c_21 => ?_) (fun c_21 => ?_)
                        · skip
                          exact absurd c_21 (by decide)
                        · skip
                          refine lv_iconst (v := 0) hx hb dX1_refusal_99 (by decide) ?_
                          refine lv_goto (tgt := 105) hx hb dX1_refusal_100 (by decide) ?_
                          exact cf_roEnd hx hb hr hlocks (by simp only [mf_ref, mf_ref2, cf_ofT, if_neg c_1, if_neg c_7, if_neg c_8, if_pos c_9, if_neg c_10, if_pos c_11, if_neg c_12, if_pos c_13, if_neg c_15, if_pos c_17, if_pos c_19, if_neg c_21, if_neg cf_n10, if_pos cf_p00, ↓reduceIte]) dX1_refusal_105
              · skip
                refine lv_iconst (v := 2) hx hb dX1_refusal_54 (by decide) ?_
                exact cf_roEnd hx hb hr hlocks (by simp only [mf_ref, mf_ref2, cf_ofT, if_neg c_1, if_neg c_7, if_neg c_8, if_pos c_9, if_neg c_10, if_pos c_11, if_pos c_12, if_neg cf_n10, if_pos cf_p00, ↓reduceIte]) dX1_refusal_55
            · skip
              exact absurd c_9 c_11
        · skip
          exact absurd (by decide) c_9
    · skip
      refine lv_iconst (v := 1) hx hb dX1_refusal_12 (by decide) ?_
      refine lv_goto (tgt := 17) hx hb dX1_refusal_13 (by decide) ?_
      refine lv_istore_n (lv' := [(3, .int 1), (0, .ref h0), (1, .int x), (2, .int w)]) hx hb dX1_refusal_17 rfl hl (by decide) rfl (fun ls hl => ?_)
      refine lv_iload_n hx hb dX1_refusal_18 rfl (lv_at hl 2 rfl) ?_
      refine lv_iconst (v := -1) hx hb dX1_refusal_19 (by decide) ?_
      refine lv_icmp_eq (tgt := 31) hx hb dX1_refusal_20 (by decide) (fun c_22 => ?_) (fun c_22 => ?_)
      · skip
        refine lv_iconst (v := 2) hx hb dX1_refusal_31 (by decide) ?_
        exact cf_roEnd hx hb hr hlocks (by simp only [mf_ref, mf_ref2, cf_ofT, if_neg c_1, if_pos c_7, if_pos c_22, if_neg cf_n10, if_pos cf_p00, ↓reduceIte]) dX1_refusal_32
      · skip
        refine lv_iload_n hx hb dX1_refusal_23 rfl (lv_at hl 0 rfl) ?_
        refine lv_if_eq (tgt := 33) hx hb dX1_refusal_24 (by decide) (fun c_23 => ?_) (fun c_23 => ?_)
        · skip
          exact absurd c_23 (by decide)
        · skip
          refine lv_iload_n hx hb dX1_refusal_27 rfl (lv_at hl 3 rfl) ?_
          refine lv_if_eq (tgt := 33) hx hb dX1_refusal_28 (by decide) (fun c_24 => ?_) (fun c_24 => ?_)
          · skip
            refine lv_aload_n hx hb dX1_refusal_33 rfl (lv_at hl 1 rfl) ?_
            refine va_get (D := D) (ci := 1) (v := .int md) (C := RX1) (T := TX1) (N := 6) hx hb hts hin0 hown hK hP 0 rfl rfl 1 (by decide) (hts (.fieldLink RX1 16 "ControlFileModel" "mode" "I") (by decide +kernel)) (fun _ h9 => h9) rfl dX1_refusal_34 ?_
            refine lv_iconst (v := 1) hx hb dX1_refusal_37 (by decide) ?_
            refine lv_icmp_eq (tgt := 45) hx hb dX1_refusal_38 (by decide) (fun c_25 => ?_) (fun c_25 => ?_)
            · skip
              refine lv_iconst (v := 0) hx hb dX1_refusal_45 (by decide) ?_
              exact cf_roEnd hx hb hr hlocks (by simp only [mf_ref, mf_ref2, cf_ofT, if_neg c_1, if_pos c_7, if_neg c_22, if_neg c_23, if_pos c_24, if_pos c_25, if_neg cf_n10, if_pos cf_p00, ↓reduceIte]) dX1_refusal_46
            · skip
              refine lv_iload_n hx hb dX1_refusal_41 rfl (lv_at hl 0 rfl) ?_
              refine lv_if_eq (tgt := 47) hx hb dX1_refusal_42 (by decide) (fun c_26 => ?_) (fun c_26 => ?_)
              · skip
                exact absurd c_26 c_23
              · skip
                refine lv_iconst (v := 0) hx hb dX1_refusal_45 (by decide) ?_
                exact cf_roEnd hx hb hr hlocks (by simp only [mf_ref, mf_ref2, cf_ofT, if_neg c_1, if_pos c_7, if_neg c_22, if_neg c_23, if_pos c_24, if_neg c_25, if_neg c_26, if_neg cf_n10, if_pos cf_p00, ↓reduceIte]) dX1_refusal_46
          · skip
            refine lv_iconst (v := 2) hx hb dX1_refusal_31 (by decide) ?_
            exact cf_roEnd hx hb hr hlocks (by simp only [mf_ref, mf_ref2, cf_ofT, if_neg c_1, if_pos c_7, if_neg c_22, if_neg c_23, if_neg c_24, if_neg cf_n10, if_pos cf_p00, ↓reduceIte]) dX1_refusal_32
set_option maxHeartbeats 4000000 in
set_option maxRecDepth 100000 in
theorem m_old (l : Launch) (D : va_G) (z : Nat → Nat) (h0 h1 : Nat) (cA : ClassId) (k : Nat → Int32) (md : Int32) (tm al : Int64) (ln od : Int32) : Met l yX1_old wsX1_old ({ frames := 0, cells := 0, slots := 0, locals := 0 } : Room) (cf_ro [.ref h0] D (cf_W 1 h0 h1 cA k md tm al ln od) [(cA, .int)] z) (vp_Si (fun r => r = od)) 0 0 (fun _ => False) := by
  refine Met.ofW (cc := cX1_old) (maxL := 1) (ret := (some .int)) (by decide) rfl ?_
  intro p e s m args below meth c s₁ B hml hv
  obtain ⟨rfl, hP, hK, hZ⟩ := hv
  have hx := B.exec
  have hb := B.bytes
  have hr := B.returns
  have hts := atoms_spec (ws := wsX1_old) B.pre
  have hown : s.vm.findClass RX1 = some m.cls := findClass_of_methodNamed B.named
  have hlocks := B.notSynchronized
  have hin0 : ∀ w ∈ wsX10, w ∈ wsX1_old := by decide +kernel
  have hS : va_S (fun _ => False) s.heap s.heap [] := va_S.rf
  have hl := lv_entry ([.ref h0]) (n := 1) (Nat.le_of_ble_eq_true rfl)
  rw [lg_entry_eq]
  generalize (lg_sl ([.ref h0]) ++ List.replicate (1 - (lg_sl ([.ref h0])).length) Slot.unset).toArray = ls at hl ⊢
  have hl : lv_has ls 1 [(0, .ref h0)] := hl
  refine lv_aload_n hx hb dX1_old_0 rfl (lv_at hl 0 rfl) ?_
  refine va_get (D := D) (ci := 1) (v := .int od) (C := RX1) (T := TX1) (N := 6) hx hb hts hin0 hown hK hP 0 rfl rfl 5 (by decide) (hts (.fieldLink RX1 33 "ControlFileModel" "old" "I") (by decide +kernel)) (fun _ h9 => h9) rfl dX1_old_1 ?_
  exact cf_roEnd hx hb hr hlocks (rfl) dX1_old_4
set_option maxHeartbeats 4000000 in
set_option maxRecDepth 100000 in
theorem m_control (l : Launch) (D : va_G) (z : Nat → Nat) (h0 h1 : Nat) (cA : ClassId) (k : Nat → Int32) (md : Int32) (tm al : Int64) (ln od : Int32) (n : Int32) : Met l yX1_control wsX1_control ({ frames := 2, cells := 0, slots := 0, locals := 42 } : Room) (cf_ro [.ref h0, .int n] D (cf_W 1 h0 h1 cA k md tm al ln od) [(cA, .int)] z) (vp_Si (fun r => r = mf_ctl k tm al ln n)) 0 0 (fun _ => False) := by
  refine Met.ofW (cc := cX1_control) (maxL := 3) (ret := (some .int)) (by decide) rfl ?_
  intro p e s m args below meth c s₁ B hml hv
  obtain ⟨rfl, hP, hK, hZ⟩ := hv
  have hx := B.exec
  have hb := B.bytes
  have hr := B.returns
  have hts := atoms_spec (ws := wsX1_control) B.pre
  have hown : s.vm.findClass RX1 = some m.cls := findClass_of_methodNamed B.named
  have hlocks := B.notSynchronized
  have hS : va_S (fun _ => False) s.heap s.heap [] := va_S.rf
  have hl := lv_entry ([.ref h0, .int n]) (n := 3) (Nat.le_of_ble_eq_true rfl)
  rw [lg_entry_eq]
  generalize (lg_sl ([.ref h0, .int n]) ++ List.replicate (3 - (lg_sl ([.ref h0, .int n])).length) Slot.unset).toArray = ls at hl ⊢
  have hl : lv_has ls 3 [(0, .ref h0), (1, .int n)] := hl
  refine lv_iload_n hx hb dX1_control_0 rfl (lv_at hl 1 rfl) ?_
  refine cf_callS (As := [.int n]) (rest := []) ⟨hx, hb, hml, hown, hts⟩ (m_placeOf l D z n) (va_cwS 1 hts gX1_control_X1_placeOf rfl rfl rfl (by decide +kernel) ⟨Nat.le_of_ble_eq_true rfl, Nat.le_of_ble_eq_true rfl⟩) (hP.sub (ws' := []) [] rfl) (hK.sub (tys' := []) [] rfl) hZ hS rfl hl.1 rfl (Nat.le_of_ble_eq_true rfl) dX1_control_1 ⟨Nat.zero_le _, Nat.zero_le _⟩ ?_
  refine lv_istore_n (lv' := [(2, .int (mf_place n)), (0, .ref h0), (1, .int n)]) hx hb dX1_control_4 rfl hl (by decide) rfl (fun ls hl => ?_)
  refine lv_iload_n hx hb dX1_control_5 rfl (lv_at hl 0 rfl) ?_
  refine lv_iconst (v := -1) hx hb dX1_control_6 (by decide) ?_
  refine lv_icmp_ne (tgt := 14) hx hb dX1_control_7 (by decide) (fun c_1 => ?_) (fun c_1 => ?_)
  · skip
    have hin1 : vp_in (mf_place n) 29 := mf_in0 c_1
    refine lv_aload_n hx hb dX1_control_14 rfl (lv_at hl 1 rfl) ?_
    refine lv_iload_n hx hb dX1_control_15 rfl (lv_at hl 0 rfl) ?_
    refine cf_callV (As := [.int (mf_place n)]) (rest := []) ⟨hx, hb, hml, hown, hts⟩ (m_tells l D z h0 h1 cA k md tm al ln od (mf_place n) hin1) (cwV 1 hts gX1_control_X1_tells rfl rfl rfl (by decide +kernel) ⟨Nat.le_of_ble_eq_true rfl, Nat.le_of_ble_eq_true rfl⟩) hP hK hZ hS (ci := 1) (q0 := 0) rfl rfl rfl rfl hl.1 rfl (Nat.le_of_ble_eq_true rfl) dX1_control_16 ⟨Nat.zero_le _, Nat.zero_le _⟩ ?_
    exact cf_roEnd hx hb hr hlocks (by simp only [mf_ctl, if_neg c_1, if_neg cf_n10, if_pos cf_p00, ↓reduceIte]) dX1_control_19
  · skip
    refine lv_iconst (v := 0) hx hb dX1_control_10 (by decide) ?_
    refine lv_goto (tgt := 19) hx hb dX1_control_11 (by decide) ?_
    exact cf_roEnd hx hb hr hlocks (by simp only [mf_ctl, if_pos c_1, if_neg cf_n10, if_pos cf_p00, ↓reduceIte]) dX1_control_19
set_option maxHeartbeats 4000000 in
set_option maxRecDepth 100000 in
theorem m_used (l : Launch) (D : va_G) (z : Nat → Nat) (h0 h1 : Nat) (cA : ClassId) (k : Nat → Int32) (md : Int32) (tm al : Int64) (ln od : Int32) : Met l yX1_used wsX1_used ({ frames := 1, cells := 0, slots := 0, locals := 21 } : Room) (cf_ro [.ref h0] D (cf_W 1 h0 h1 cA k md tm al ln od) [(cA, .int)] z) (vp_Si (fun r => r = mf_used k tm al ln)) 0 0 (fun _ => False) := by
  refine Met.ofW (cc := cX1_used) (maxL := 3) (ret := (some .int)) (by decide) rfl ?_
  intro p e s m args below meth c s₁ B hml hv
  obtain ⟨rfl, hP, hK, hZ⟩ := hv
  have hx := B.exec
  have hb := B.bytes
  have hr := B.returns
  have hts := atoms_spec (ws := wsX1_used) B.pre
  have hown : s.vm.findClass RX1 = some m.cls := findClass_of_methodNamed B.named
  have hlocks := B.notSynchronized
  have hS : va_S (fun _ => False) s.heap s.heap [] := va_S.rf
  have hl := lv_entry ([.ref h0]) (n := 3) (Nat.le_of_ble_eq_true rfl)
  rw [lg_entry_eq]
  generalize (lg_sl ([.ref h0]) ++ List.replicate (3 - (lg_sl ([.ref h0])).length) Slot.unset).toArray = ls at hl ⊢
  have hl : lv_has ls 3 [(0, .ref h0)] := hl
  refine lv_iconst (v := 0) hx hb dX1_used_0 (by decide) ?_
  refine lv_istore_n (lv' := [(1, .int 0), (0, .ref h0)]) hx hb dX1_used_1 rfl hl (by decide) rfl (fun ls hl => ?_)
  refine lv_iconst (v := 0) hx hb dX1_used_2 (by decide) ?_
  refine lv_istore_n (lv' := [(2, .int 0), (1, .int 0), (0, .ref h0)]) hx hb dX1_used_3 rfl hl (by decide) rfl (fun ls hl => ?_)
  refine cf_ind (G := W p l e _ s m _ below meth c s.heap [] 0 0 _) 29 (fun i ls => lv_has ls 3 [(2, .int (nI i)), (1, .int (mf_cnt (mf_tf k tm al ln) i)), (0, .ref h0)]) ?_ ?_ 29 0 ls rfl (by omega) hl
  · intro i ls hi hl ih
    have hl : lv_has ls 3 [(2, .int (nI i)), (1, .int (mf_cnt (mf_tf k tm al ln) i)), (0, .ref h0)] := hl
    refine lv_iload_n hx hb dX1_used_4 rfl (lv_at hl 0 rfl) ?_
    refine lv_bipush (v := 29) hx hb dX1_used_5 (by decide) ?_
    refine lv_icmp_ge (tgt := 32) hx hb dX1_used_7 (by decide) (fun c_1 => ?_) (fun c_1 => ?_)
    · skip
      exact absurd c_1 (show ¬ (29 : Int32) ≤ nI i from nI_ge hi (by decide))
    · skip
      refine lv_iload_n hx hb dX1_used_10 rfl (lv_at hl 1 rfl) ?_
      refine lv_aload_n hx hb dX1_used_11 rfl (lv_at hl 2 rfl) ?_
      refine lv_iload_n hx hb dX1_used_12 rfl (lv_at hl 0 rfl) ?_
      refine cf_callV (As := [.int (nI i)]) (rest := [.int (mf_cnt (mf_tf k tm al ln) i)]) ⟨hx, hb, hml, hown, hts⟩ (m_tells l D z h0 h1 cA k md tm al ln od (nI i) (vp_in_nI hi (by omega))) (cwV 1 hts gX1_used_X1_tells rfl rfl rfl (by decide +kernel) ⟨Nat.le_of_ble_eq_true rfl, Nat.le_of_ble_eq_true rfl⟩) hP hK hZ hS (ci := 1) (q0 := 0) rfl rfl rfl rfl hl.1 rfl (Nat.le_of_ble_eq_true rfl) dX1_used_13 ⟨Nat.zero_le _, Nat.zero_le _⟩ ?_
      refine lv_if_eq (tgt := 23) hx hb dX1_used_16 (by decide) (fun c_2 => ?_) (fun c_2 => ?_)
      · skip
        refine lv_iconst (v := 0) hx hb dX1_used_23 (by decide) ?_
        refine lv_iadd hx hb dX1_used_24 ?_
        refine lv_istore_n (lv' := [(1, .int ((mf_cnt (mf_tf k tm al ln) i) + 0)), (2, .int (nI i)), (0, .ref h0)]) hx hb dX1_used_25 rfl hl (by decide) rfl (fun ls hl => ?_)
        refine lv_iinc (v := nI (i + 1)) (lv' := [(2, .int (nI (i + 1))), (1, .int ((mf_cnt (mf_tf k tm al ln) i) + 0)), (0, .ref h0)]) hx hb dX1_used_26 hl (k := 1) rfl (nI_1 i) (by decide) rfl (fun ls hl => ?_)
        refine lv_goto (tgt := 4) hx hb dX1_used_29 (by decide) ?_
        refine ih ls ?_
        show lv_has ls 3 [(2, .int (nI (i + 1))), (1, .int (mf_cnt (mf_tf k tm al ln) (i + 1))), (0, .ref h0)]
        rw [mf_cnt, if_pos (show mf_tf k tm al ln i = 0 from c_2)]
        exact lv_sub hl [0, 1, 2] rfl
      · skip
        refine lv_iconst (v := 1) hx hb dX1_used_19 (by decide) ?_
        refine lv_goto (tgt := 24) hx hb dX1_used_20 (by decide) ?_
        refine lv_iadd hx hb dX1_used_24 ?_
        refine lv_istore_n (lv' := [(1, .int ((mf_cnt (mf_tf k tm al ln) i) + 1)), (2, .int (nI i)), (0, .ref h0)]) hx hb dX1_used_25 rfl hl (by decide) rfl (fun ls hl => ?_)
        refine lv_iinc (v := nI (i + 1)) (lv' := [(2, .int (nI (i + 1))), (1, .int ((mf_cnt (mf_tf k tm al ln) i) + 1)), (0, .ref h0)]) hx hb dX1_used_26 hl (k := 1) rfl (nI_1 i) (by decide) rfl (fun ls hl => ?_)
        refine lv_goto (tgt := 4) hx hb dX1_used_29 (by decide) ?_
        refine ih ls ?_
        show lv_has ls 3 [(2, .int (nI (i + 1))), (1, .int (mf_cnt (mf_tf k tm al ln) (i + 1))), (0, .ref h0)]
        rw [mf_cnt, if_neg (show ¬ (mf_tf k tm al ln i = 0) from c_2)]
        exact lv_sub hl [0, 1, 2] rfl
  · intro ls hl
    have hl : lv_has ls 3 [(2, .int (nI 29)), (1, .int (mf_cnt (mf_tf k tm al ln) 29)), (0, .ref h0)] := hl
    refine lv_iload_n hx hb dX1_used_4 rfl (lv_at hl 0 rfl) ?_
    refine lv_bipush (v := 29) hx hb dX1_used_5 (by decide) ?_
    refine lv_icmp_ge (tgt := 32) hx hb dX1_used_7 (by decide) (fun c_3 => ?_) (fun c_3 => ?_)
    · skip
      refine lv_iload_n hx hb dX1_used_32 rfl (lv_at hl 1 rfl) ?_
      exact cf_roEnd hx hb hr hlocks rfl dX1_used_33
    · skip
      exact absurd (show (29 : Int32) ≤ nI 29 by decide) c_3
set_option maxHeartbeats 4000000 in
set_option maxRecDepth 100000 in
theorem m_due (l : Launch) (D : va_G) (z : Nat → Nat) (h0 h1 : Nat) (cA : ClassId) (k : Nat → Int32) (md : Int32) (tm al : Int64) (ln od : Int32) : Met l yX1_due wsX1_due ({ frames := 1, cells := 0, slots := 0, locals := 23 } : Room) (cf_ro [.ref h0] D (cf_W 1 h0 h1 cA k md tm al ln od) [(cA, .int)] z) (vp_Si (fun r => r = mf_due k md tm al ln)) 0 0 (fun _ => False) := by
  refine Met.ofW (cc := cX1_due) (maxL := 6) (ret := (some .int)) (by decide) rfl ?_
  intro p e s m args below meth c s₁ B hml hv
  obtain ⟨rfl, hP, hK, hZ⟩ := hv
  have hx := B.exec
  have hb := B.bytes
  have hr := B.returns
  have hts := atoms_spec (ws := wsX1_due) B.pre
  have hown : s.vm.findClass RX1 = some m.cls := findClass_of_methodNamed B.named
  have hlocks := B.notSynchronized
  have hin0 : ∀ w ∈ wsX10, w ∈ wsX1_due := by decide +kernel
  have hS : va_S (fun _ => False) s.heap s.heap [] := va_S.rf
  have hl := lv_entry ([.ref h0]) (n := 6) (Nat.le_of_ble_eq_true rfl)
  rw [lg_entry_eq]
  generalize (lg_sl ([.ref h0]) ++ List.replicate (6 - (lg_sl ([.ref h0])).length) Slot.unset).toArray = ls at hl ⊢
  have hl : lv_has ls 6 [(0, .ref h0)] := hl
  refine lv_aload_n hx hb dX1_due_0 rfl (lv_at hl 0 rfl) ?_
  refine lv_bipush (v := 7) hx hb dX1_due_1 (by decide) ?_
  refine cf_callV (As := [.int 7]) (rest := []) ⟨hx, hb, hml, hown, hts⟩ (m_tells l D z h0 h1 cA k md tm al ln od 7 (show vp_in (7 : Int32) 29 from vp_in_nI (n := 7) (by decide) (by decide))) (cwV 1 hts gX1_due_X1_tells rfl rfl rfl (by decide +kernel) ⟨Nat.le_of_ble_eq_true rfl, Nat.le_of_ble_eq_true rfl⟩) hP hK hZ hS (ci := 1) (q0 := 0) rfl rfl rfl rfl hl.1 rfl (Nat.le_of_ble_eq_true rfl) dX1_due_3 ⟨Nat.zero_le _, Nat.zero_le _⟩ ?_
  refine lv_aload_n hx hb dX1_due_6 rfl (lv_at hl 0 rfl) ?_
  refine va_get (D := D) (ci := 1) (v := .ref h1) (C := RX1) (T := TX1) (N := 6) hx hb hts hin0 hown hK hP 0 rfl rfl 0 (by decide) (hts (.fieldLink RX1 7 "ControlFileModel" "kept" "[I") (by decide +kernel)) (fun _ h9 => h9) rfl dX1_due_7 ?_
  refine lv_iconst (v := 1) hx hb dX1_due_10 (by decide) ?_
  refine cf_ld 1 hx hb hK hP 1 0 rfl rfl rfl (by decide) dX1_due_11 ?_
  refine lv_iand hx hb dX1_due_12 ?_
  refine lv_bipush (v := 9) hx hb dX1_due_13 (by decide) ?_
  refine lv_iconst (v := 1) hx hb dX1_due_15 (by decide) ?_
  refine lv_iconst (v := 5) hx hb dX1_due_16 (by decide) ?_
  refine cf_callS (As := [.int ((mf_tell k tm al ln 7) &&& (k 1)), .int 9, .int 1, .int 5]) (rest := []) ⟨hx, hb, hml, hown, hts⟩ (m_firstOf l D z ((mf_tell k tm al ln 7) &&& (k 1)) 9 1 5) (va_cwS 4 hts gX1_due_X1_firstOf rfl rfl rfl (by decide +kernel) ⟨Nat.le_of_ble_eq_true rfl, Nat.le_of_ble_eq_true rfl⟩) (hP.sub (ws' := []) [] rfl) (hK.sub (tys' := []) [] rfl) hZ hS rfl hl.1 rfl (Nat.le_of_ble_eq_true rfl) dX1_due_17 ⟨Nat.zero_le _, Nat.zero_le _⟩ ?_
  refine lv_istore_n (lv' := [(1, .int (mf_fst ((mf_tell k tm al ln 7) &&& (k 1)) 9 1 5)), (0, .ref h0)]) hx hb dX1_due_20 rfl hl (by decide) rfl (fun ls hl => ?_)
  refine lv_aload_n hx hb dX1_due_21 rfl (lv_at hl 1 rfl) ?_
  refine va_get (D := D) (ci := 1) (v := .ref h1) (C := RX1) (T := TX1) (N := 6) hx hb hts hin0 hown hK hP 0 rfl rfl 0 (by decide) (hts (.fieldLink RX1 7 "ControlFileModel" "kept" "[I") (by decide +kernel)) (fun _ h9 => h9) rfl dX1_due_22 ?_
  refine lv_bipush (v := 24) hx hb dX1_due_25 (by decide) ?_
  refine cf_ld 24 hx hb hK hP 1 0 rfl rfl rfl (by decide) dX1_due_27 ?_
  refine lv_aload_n hx hb dX1_due_28 rfl (lv_at hl 1 rfl) ?_
  refine va_get (D := D) (ci := 1) (v := .ref h1) (C := RX1) (T := TX1) (N := 6) hx hb hts hin0 hown hK hP 0 rfl rfl 0 (by decide) (hts (.fieldLink RX1 7 "ControlFileModel" "kept" "[I") (by decide +kernel)) (fun _ h9 => h9) rfl dX1_due_29 ?_
  refine lv_bipush (v := 21) hx hb dX1_due_32 (by decide) ?_
  refine cf_ld 21 hx hb hK hP 1 0 rfl rfl rfl (by decide) dX1_due_34 ?_
  refine lv_iand hx hb dX1_due_35 ?_
  refine lv_aload_n hx hb dX1_due_36 rfl (lv_at hl 1 rfl) ?_
  refine va_get (D := D) (ci := 1) (v := .ref h1) (C := RX1) (T := TX1) (N := 6) hx hb hts hin0 hown hK hP 0 rfl rfl 0 (by decide) (hts (.fieldLink RX1 7 "ControlFileModel" "kept" "[I") (by decide +kernel)) (fun _ h9 => h9) rfl dX1_due_37 ?_
  refine lv_bipush (v := 20) hx hb dX1_due_40 (by decide) ?_
  refine cf_ld 20 hx hb hK hP 1 0 rfl rfl rfl (by decide) dX1_due_42 ?_
  refine lv_iconst (v := -1) hx hb dX1_due_43 (by decide) ?_
  refine lv_ixor hx hb dX1_due_44 ?_
  refine lv_iand hx hb dX1_due_45 ?_
  refine lv_bipush (v := 10) hx hb dX1_due_46 (by decide) ?_
  refine lv_iconst (v := 2) hx hb dX1_due_48 (by decide) ?_
  refine lv_bipush (v := 6) hx hb dX1_due_49 (by decide) ?_
  refine cf_callS (As := [.int (((k 24) &&& (k 21)) &&& ((k 20) ^^^ (-1))), .int 10, .int 2, .int 6]) (rest := []) ⟨hx, hb, hml, hown, hts⟩ (m_firstOf l D z (((k 24) &&& (k 21)) &&& ((k 20) ^^^ (-1))) 10 2 6) (va_cwS 4 hts gX1_due_X1_firstOf rfl rfl rfl (by decide +kernel) ⟨Nat.le_of_ble_eq_true rfl, Nat.le_of_ble_eq_true rfl⟩) (hP.sub (ws' := []) [] rfl) (hK.sub (tys' := []) [] rfl) hZ hS rfl hl.1 rfl (Nat.le_of_ble_eq_true rfl) dX1_due_51 ⟨Nat.zero_le _, Nat.zero_le _⟩ ?_
  refine lv_istore_n (lv' := [(2, .int (mf_fst (((k 24) &&& (k 21)) &&& ((k 20) ^^^ (-1))) 10 2 6)), (1, .int (mf_fst ((mf_tell k tm al ln 7) &&& (k 1)) 9 1 5)), (0, .ref h0)]) hx hb dX1_due_54 rfl hl (by decide) rfl (fun ls hl => ?_)
  refine lv_aload_n hx hb dX1_due_55 rfl (lv_at hl 2 rfl) ?_
  refine va_get (D := D) (ci := 1) (v := .int md) (C := RX1) (T := TX1) (N := 6) hx hb hts hin0 hown hK hP 0 rfl rfl 1 (by decide) (hts (.fieldLink RX1 16 "ControlFileModel" "mode" "I") (by decide +kernel)) (fun _ h9 => h9) rfl dX1_due_56 ?_
  refine lv_iconst (v := 1) hx hb dX1_due_59 (by decide) ?_
  refine lv_icmp_ne (tgt := 72) hx hb dX1_due_60 (by decide) (fun c_1 => ?_) (fun c_1 => ?_)
  · skip
    refine lv_iconst (v := 1) hx hb dX1_due_72 (by decide) ?_
    refine lv_goto (tgt := 77) hx hb dX1_due_73 (by decide) ?_
    refine lv_istore_n (lv' := [(3, .int 1), (2, .int (mf_fst (((k 24) &&& (k 21)) &&& ((k 20) ^^^ (-1))) 10 2 6)), (1, .int (mf_fst ((mf_tell k tm al ln 7) &&& (k 1)) 9 1 5)), (0, .ref h0)]) hx hb dX1_due_77 rfl hl (by decide) rfl (fun ls hl => ?_)
    refine lv_iload_n hx hb dX1_due_78 rfl (lv_at hl 0 rfl) ?_
    refine lv_if_eq (tgt := 103) hx hb dX1_due_79 (by decide) (fun c_2 => ?_) (fun c_2 => ?_)
    · skip
      exact absurd c_2 (by decide)
    · skip
      refine lv_iload_n hx hb dX1_due_82 rfl (lv_at hl 2 rfl) ?_
      refine lv_iconst (v := -1) hx hb dX1_due_83 (by decide) ?_
      refine lv_icmp_ne (tgt := 92) hx hb dX1_due_84 (by decide) (fun c_3 => ?_) (fun c_3 => ?_)
      · skip
        refine lv_iload_n hx hb dX1_due_92 rfl (lv_at hl 2 rfl) ?_
        refine lv_iconst (v := -1) hx hb dX1_due_93 (by decide) ?_
        refine lv_icmp_eq (tgt := 101) hx hb dX1_due_94 (by decide) (fun c_4 => ?_) (fun c_4 => ?_)
        · skip
          exact absurd c_4 c_3
        · skip
          refine lv_iload_n hx hb dX1_due_97 rfl (lv_at hl 2 rfl) ?_
          refine lv_goto (tgt := 102) hx hb dX1_due_98 (by decide) ?_
          exact cf_roEnd hx hb hr hlocks (by show mf_own k tm al ln = mf_due k md tm al ln; simp only [mf_due, mf_dS, mf_dV, mf_dV1, if_neg c_1, if_neg c_2, if_neg (show ¬ ((mf_own k tm al ln) = (-1)) from c_3), if_neg (show ¬ ((mf_own k tm al ln) = (-1)) from c_4), ↓reduceIte]) dX1_due_102
      · skip
        refine lv_iload_n hx hb dX1_due_87 rfl (lv_at hl 1 rfl) ?_
        refine lv_iconst (v := -1) hx hb dX1_due_88 (by decide) ?_
        refine lv_icmp_eq (tgt := 103) hx hb dX1_due_89 (by decide) (fun c_5 => ?_) (fun c_5 => ?_)
        · skip
          refine lv_aload_n hx hb dX1_due_103 rfl (lv_at hl 3 rfl) ?_
          refine va_get (D := D) (ci := 1) (v := .ref h1) (C := RX1) (T := TX1) (N := 6) hx hb hts hin0 hown hK hP 0 rfl rfl 0 (by decide) (hts (.fieldLink RX1 7 "ControlFileModel" "kept" "[I") (by decide +kernel)) (fun _ h9 => h9) rfl dX1_due_104 ?_
          refine lv_bipush (v := 24) hx hb dX1_due_107 (by decide) ?_
          refine cf_ld 24 hx hb hK hP 1 0 rfl rfl rfl (by decide) dX1_due_109 ?_
          refine lv_aload_n hx hb dX1_due_110 rfl (lv_at hl 3 rfl) ?_
          refine va_get (D := D) (ci := 1) (v := .ref h1) (C := RX1) (T := TX1) (N := 6) hx hb hts hin0 hown hK hP 0 rfl rfl 0 (by decide) (hts (.fieldLink RX1 7 "ControlFileModel" "kept" "[I") (by decide +kernel)) (fun _ h9 => h9) rfl dX1_due_111 ?_
          refine lv_bipush (v := 21) hx hb dX1_due_114 (by decide) ?_
          refine cf_ld 21 hx hb hK hP 1 0 rfl rfl rfl (by decide) dX1_due_116 ?_
          refine lv_iand hx hb dX1_due_117 ?_
          refine lv_aload_n hx hb dX1_due_118 rfl (lv_at hl 3 rfl) ?_
          refine va_get (D := D) (ci := 1) (v := .ref h1) (C := RX1) (T := TX1) (N := 6) hx hb hts hin0 hown hK hP 0 rfl rfl 0 (by decide) (hts (.fieldLink RX1 7 "ControlFileModel" "kept" "[I") (by decide +kernel)) (fun _ h9 => h9) rfl dX1_due_119 ?_
          refine lv_bipush (v := 20) hx hb dX1_due_122 (by decide) ?_
          refine cf_ld 20 hx hb hK hP 1 0 rfl rfl rfl (by decide) dX1_due_124 ?_
          refine lv_iand hx hb dX1_due_125 ?_
          refine lv_bipush (v := 10) hx hb dX1_due_126 (by decide) ?_
          refine lv_iconst (v := 2) hx hb dX1_due_128 (by decide) ?_
          refine lv_bipush (v := 6) hx hb dX1_due_129 (by decide) ?_
          refine cf_callS (As := [.int (((k 24) &&& (k 21)) &&& (k 20)), .int 10, .int 2, .int 6]) (rest := []) ⟨hx, hb, hml, hown, hts⟩ (m_firstOf l D z (((k 24) &&& (k 21)) &&& (k 20)) 10 2 6) (va_cwS 4 hts gX1_due_X1_firstOf rfl rfl rfl (by decide +kernel) ⟨Nat.le_of_ble_eq_true rfl, Nat.le_of_ble_eq_true rfl⟩) (hP.sub (ws' := []) [] rfl) (hK.sub (tys' := []) [] rfl) hZ hS rfl hl.1 rfl (Nat.le_of_ble_eq_true rfl) dX1_due_131 ⟨Nat.zero_le _, Nat.zero_le _⟩ ?_
          refine lv_istore (lv' := [(4, .int (mf_fst (((k 24) &&& (k 21)) &&& (k 20)) 10 2 6)), (3, .int 1), (2, .int (mf_fst (((k 24) &&& (k 21)) &&& ((k 20) ^^^ (-1))) 10 2 6)), (1, .int (mf_fst ((mf_tell k tm al ln 7) &&& (k 1)) 9 1 5)), (0, .ref h0)]) hx hb dX1_due_134 hl (by decide) rfl (fun ls hl => ?_)
          refine lv_aload_n hx hb dX1_due_136 rfl (lv_at hl 4 rfl) ?_
          refine va_get (D := D) (ci := 1) (v := .int md) (C := RX1) (T := TX1) (N := 6) hx hb hts hin0 hown hK hP 0 rfl rfl 1 (by decide) (hts (.fieldLink RX1 16 "ControlFileModel" "mode" "I") (by decide +kernel)) (fun _ h9 => h9) rfl dX1_due_137 ?_
          refine lv_iconst (v := 2) hx hb dX1_due_140 (by decide) ?_
          refine lv_icmp_eq (tgt := 162) hx hb dX1_due_141 (by decide) (fun c_6 => ?_) (fun c_6 => ?_)
          · skip
            refine lv_iconst (v := 1) hx hb dX1_due_162 (by decide) ?_
            refine lv_goto (tgt := 167) hx hb dX1_due_163 (by decide) ?_
            refine lv_istore (lv' := [(5, .int 1), (4, .int (mf_fst (((k 24) &&& (k 21)) &&& (k 20)) 10 2 6)), (3, .int 1), (2, .int (mf_fst (((k 24) &&& (k 21)) &&& ((k 20) ^^^ (-1))) 10 2 6)), (1, .int (mf_fst ((mf_tell k tm al ln 7) &&& (k 1)) 9 1 5)), (0, .ref h0)]) hx hb dX1_due_167 hl (by decide) rfl (fun ls hl => ?_)
            refine lv_iload hx hb dX1_due_169 (lv_at hl 0 rfl) ?_
            refine lv_if_eq (tgt := 190) hx hb dX1_due_171 (by decide) (fun c_7 => ?_) (fun c_7 => ?_)
            · skip
              exact absurd c_7 c_2
            · skip
              refine lv_iload hx hb dX1_due_174 (lv_at hl 1 rfl) ?_
              refine lv_iconst (v := -1) hx hb dX1_due_176 (by decide) ?_
              refine lv_icmp_eq (tgt := 190) hx hb dX1_due_177 (by decide) (fun c_8 => ?_) (fun c_8 => ?_)
              · skip
                refine lv_iconst (v := -1) hx hb dX1_due_190 (by decide) ?_
                exact cf_roEnd hx hb hr hlocks (by show -1 = mf_due k md tm al ln; simp only [mf_due, mf_dS, mf_dV, mf_dV1, if_neg c_1, if_neg c_2, if_pos (show (mf_own k tm al ln) = (-1) from c_3), if_pos (show (mf_hy k) = (-1) from c_5), if_pos c_6, if_neg c_7, if_pos (show (mf_vi k) = (-1) from c_8), ↓reduceIte]) dX1_due_191
              · skip
                refine lv_bipush (v := 100) hx hb dX1_due_180 (by decide) ?_
                refine lv_iload hx hb dX1_due_182 (lv_at hl 1 rfl) ?_
                refine lv_iadd hx hb dX1_due_184 ?_
                refine lv_iconst (v := 1) hx hb dX1_due_185 (by decide) ?_
                refine lv_isub hx hb dX1_due_186 ?_
                refine lv_goto (tgt := 191) hx hb dX1_due_187 (by decide) ?_
                exact cf_roEnd hx hb hr hlocks (by show (100 + (mf_vi k)) - 1 = mf_due k md tm al ln; simp only [mf_due, mf_dS, mf_dV, mf_dV1, if_neg c_1, if_neg c_2, if_pos (show (mf_own k tm al ln) = (-1) from c_3), if_pos (show (mf_hy k) = (-1) from c_5), if_pos c_6, if_neg c_7, if_neg (show ¬ ((mf_vi k) = (-1)) from c_8), ↓reduceIte]) dX1_due_191
          · skip
            refine lv_aload_n hx hb dX1_due_144 rfl (lv_at hl 4 rfl) ?_
            refine va_get (D := D) (ci := 1) (v := .int md) (C := RX1) (T := TX1) (N := 6) hx hb hts hin0 hown hK hP 0 rfl rfl 1 (by decide) (hts (.fieldLink RX1 16 "ControlFileModel" "mode" "I") (by decide +kernel)) (fun _ h9 => h9) rfl dX1_due_145 ?_
            refine lv_iconst (v := 3) hx hb dX1_due_148 (by decide) ?_
            refine lv_icmp_ne (tgt := 166) hx hb dX1_due_149 (by decide) (fun c_9 => ?_) (fun c_9 => ?_)
            · skip
              refine lv_iconst (v := 0) hx hb dX1_due_166 (by decide) ?_
              refine lv_istore (lv' := [(5, .int 0), (4, .int (mf_fst (((k 24) &&& (k 21)) &&& (k 20)) 10 2 6)), (3, .int 1), (2, .int (mf_fst (((k 24) &&& (k 21)) &&& ((k 20) ^^^ (-1))) 10 2 6)), (1, .int (mf_fst ((mf_tell k tm al ln 7) &&& (k 1)) 9 1 5)), (0, .ref h0)]) hx hb dX1_due_167 hl (by decide) rfl (fun ls hl => ?_)
              refine lv_iload hx hb dX1_due_169 (lv_at hl 0 rfl) ?_
              refine lv_if_eq (tgt := 190) hx hb dX1_due_171 (by decide) (fun c_10 => ?_) (fun c_10 => ?_)
              · skip
                refine lv_iconst (v := -1) hx hb dX1_due_190 (by decide) ?_
                exact cf_roEnd hx hb hr hlocks (by show -1 = mf_due k md tm al ln; simp only [mf_due, mf_dS, mf_dV, mf_dV1, if_neg c_1, if_neg c_2, if_pos (show (mf_own k tm al ln) = (-1) from c_3), if_pos (show (mf_hy k) = (-1) from c_5), if_neg c_6, if_neg c_9, if_pos c_10, ↓reduceIte]) dX1_due_191
              · skip
                exact absurd (by decide) c_10
            · skip
              refine lv_aload_n hx hb dX1_due_152 rfl (lv_at hl 4 rfl) ?_
              refine lv_bipush (v := 9) hx hb dX1_due_153 (by decide) ?_
              refine lv_iconst (v := 1) hx hb dX1_due_155 (by decide) ?_
              refine cf_callV (As := [.int 9, .int 1]) (rest := []) ⟨hx, hb, hml, hown, hts⟩ (m_has l D z h0 h1 cA k md tm al ln od 9 1 9 (by decide) rfl) (cwV 2 hts gX1_due_X1_has rfl rfl rfl (by decide +kernel) ⟨Nat.le_of_ble_eq_true rfl, Nat.le_of_ble_eq_true rfl⟩) hP hK hZ hS (ci := 1) (q0 := 0) rfl rfl rfl rfl hl.1 rfl (Nat.le_of_ble_eq_true rfl) dX1_due_156 ⟨Nat.zero_le _, Nat.zero_le _⟩ ?_
              refine lv_if_eq (tgt := 166) hx hb dX1_due_159 (by decide) (fun c_11 => ?_) (fun c_11 => ?_)
              · skip
                refine lv_iconst (v := 0) hx hb dX1_due_166 (by decide) ?_
                refine lv_istore (lv' := [(5, .int 0), (4, .int (mf_fst (((k 24) &&& (k 21)) &&& (k 20)) 10 2 6)), (3, .int 1), (2, .int (mf_fst (((k 24) &&& (k 21)) &&& ((k 20) ^^^ (-1))) 10 2 6)), (1, .int (mf_fst ((mf_tell k tm al ln 7) &&& (k 1)) 9 1 5)), (0, .ref h0)]) hx hb dX1_due_167 hl (by decide) rfl (fun ls hl => ?_)
                refine lv_iload hx hb dX1_due_169 (lv_at hl 0 rfl) ?_
                refine lv_if_eq (tgt := 190) hx hb dX1_due_171 (by decide) (fun c_12 => ?_) (fun c_12 => ?_)
                · skip
                  refine lv_iconst (v := -1) hx hb dX1_due_190 (by decide) ?_
                  exact cf_roEnd hx hb hr hlocks (by show -1 = mf_due k md tm al ln; simp only [mf_due, mf_dS, mf_dV, mf_dV1, if_neg c_1, if_neg c_2, if_pos (show (mf_own k tm al ln) = (-1) from c_3), if_pos (show (mf_hy k) = (-1) from c_5), if_neg c_6, if_pos c_9, if_pos c_11, if_pos c_12, ↓reduceIte]) dX1_due_191
                · skip
                  exact absurd (by decide) c_12
              · skip
                refine lv_iconst (v := 1) hx hb dX1_due_162 (by decide) ?_
                refine lv_goto (tgt := 167) hx hb dX1_due_163 (by decide) ?_
                refine lv_istore (lv' := [(5, .int 1), (4, .int (mf_fst (((k 24) &&& (k 21)) &&& (k 20)) 10 2 6)), (3, .int 1), (2, .int (mf_fst (((k 24) &&& (k 21)) &&& ((k 20) ^^^ (-1))) 10 2 6)), (1, .int (mf_fst ((mf_tell k tm al ln 7) &&& (k 1)) 9 1 5)), (0, .ref h0)]) hx hb dX1_due_167 hl (by decide) rfl (fun ls hl => ?_)
                refine lv_iload hx hb dX1_due_169 (lv_at hl 0 rfl) ?_
                refine lv_if_eq (tgt := 190) hx hb dX1_due_171 (by decide) (fun c_13 => ?_) (fun c_13 => ?_)
                · skip
                  exact absurd c_13 c_2
                · skip
                  refine lv_iload hx hb dX1_due_174 (lv_at hl 1 rfl) ?_
                  refine lv_iconst (v := -1) hx hb dX1_due_176 (by decide) ?_
                  refine lv_icmp_eq (tgt := 190) hx hb dX1_due_177 (by decide) (fun c_14 => ?_) (fun c_14 => ?_)
                  · skip
                    refine lv_iconst (v := -1) hx hb dX1_due_190 (by decide) ?_
                    exact cf_roEnd hx hb hr hlocks (by show -1 = mf_due k md tm al ln; simp only [mf_due, mf_dS, mf_dV, mf_dV1, if_neg c_1, if_neg c_2, if_pos (show (mf_own k tm al ln) = (-1) from c_3), if_pos (show (mf_hy k) = (-1) from c_5), if_neg c_6, if_pos c_9, if_neg c_11, if_neg c_13, if_pos (show (mf_vi k) = (-1) from c_14), ↓reduceIte]) dX1_due_191
                  · skip
                    refine lv_bipush (v := 100) hx hb dX1_due_180 (by decide) ?_
                    refine lv_iload hx hb dX1_due_182 (lv_at hl 1 rfl) ?_
                    refine lv_iadd hx hb dX1_due_184 ?_
                    refine lv_iconst (v := 1) hx hb dX1_due_185 (by decide) ?_
                    refine lv_isub hx hb dX1_due_186 ?_
                    refine lv_goto (tgt := 191) hx hb dX1_due_187 (by decide) ?_
                    exact cf_roEnd hx hb hr hlocks (by show (100 + (mf_vi k)) - 1 = mf_due k md tm al ln; simp only [mf_due, mf_dS, mf_dV, mf_dV1, if_neg c_1, if_neg c_2, if_pos (show (mf_own k tm al ln) = (-1) from c_3), if_pos (show (mf_hy k) = (-1) from c_5), if_neg c_6, if_pos c_9, if_neg c_11, if_neg c_13, if_neg (show ¬ ((mf_vi k) = (-1)) from c_14), ↓reduceIte]) dX1_due_191
        · skip
          refine lv_iload_n hx hb dX1_due_92 rfl (lv_at hl 2 rfl) ?_
          refine lv_iconst (v := -1) hx hb dX1_due_93 (by decide) ?_
          refine lv_icmp_eq (tgt := 101) hx hb dX1_due_94 (by decide) (fun c_15 => ?_) (fun c_15 => ?_)
          · skip
            refine lv_iload_n hx hb dX1_due_101 rfl (lv_at hl 1 rfl) ?_
            exact cf_roEnd hx hb hr hlocks (by show mf_hy k = mf_due k md tm al ln; simp only [mf_due, mf_dS, mf_dV, mf_dV1, if_neg c_1, if_neg c_2, if_pos (show (mf_own k tm al ln) = (-1) from c_3), if_neg (show ¬ ((mf_hy k) = (-1)) from c_5), if_pos (show (mf_own k tm al ln) = (-1) from c_15), ↓reduceIte]) dX1_due_102
          · skip
            exact absurd c_3 c_15
  · skip
    refine lv_aload_n hx hb dX1_due_63 rfl (lv_at hl 2 rfl) ?_
    refine lv_iconst (v := 0) hx hb dX1_due_64 (by decide) ?_
    refine lv_iconst (v := 1) hx hb dX1_due_65 (by decide) ?_
    refine cf_callV (As := [.int 0, .int 1]) (rest := []) ⟨hx, hb, hml, hown, hts⟩ (m_has l D z h0 h1 cA k md tm al ln od 0 1 0 (by decide) rfl) (cwV 2 hts gX1_due_X1_has rfl rfl rfl (by decide +kernel) ⟨Nat.le_of_ble_eq_true rfl, Nat.le_of_ble_eq_true rfl⟩) hP hK hZ hS (ci := 1) (q0 := 0) rfl rfl rfl rfl hl.1 rfl (Nat.le_of_ble_eq_true rfl) dX1_due_66 ⟨Nat.zero_le _, Nat.zero_le _⟩ ?_
    refine lv_if_eq (tgt := 76) hx hb dX1_due_69 (by decide) (fun c_16 => ?_) (fun c_16 => ?_)
    · skip
      refine lv_iconst (v := 0) hx hb dX1_due_76 (by decide) ?_
      refine lv_istore_n (lv' := [(3, .int 0), (2, .int (mf_fst (((k 24) &&& (k 21)) &&& ((k 20) ^^^ (-1))) 10 2 6)), (1, .int (mf_fst ((mf_tell k tm al ln 7) &&& (k 1)) 9 1 5)), (0, .ref h0)]) hx hb dX1_due_77 rfl hl (by decide) rfl (fun ls hl => ?_)
      refine lv_iload_n hx hb dX1_due_78 rfl (lv_at hl 0 rfl) ?_
      refine lv_if_eq (tgt := 103) hx hb dX1_due_79 (by decide) (fun c_17 => ?_) (fun c_17 => ?_)
      · skip
        refine lv_aload_n hx hb dX1_due_103 rfl (lv_at hl 3 rfl) ?_
        refine va_get (D := D) (ci := 1) (v := .ref h1) (C := RX1) (T := TX1) (N := 6) hx hb hts hin0 hown hK hP 0 rfl rfl 0 (by decide) (hts (.fieldLink RX1 7 "ControlFileModel" "kept" "[I") (by decide +kernel)) (fun _ h9 => h9) rfl dX1_due_104 ?_
        refine lv_bipush (v := 24) hx hb dX1_due_107 (by decide) ?_
        refine cf_ld 24 hx hb hK hP 1 0 rfl rfl rfl (by decide) dX1_due_109 ?_
        refine lv_aload_n hx hb dX1_due_110 rfl (lv_at hl 3 rfl) ?_
        refine va_get (D := D) (ci := 1) (v := .ref h1) (C := RX1) (T := TX1) (N := 6) hx hb hts hin0 hown hK hP 0 rfl rfl 0 (by decide) (hts (.fieldLink RX1 7 "ControlFileModel" "kept" "[I") (by decide +kernel)) (fun _ h9 => h9) rfl dX1_due_111 ?_
        refine lv_bipush (v := 21) hx hb dX1_due_114 (by decide) ?_
        refine cf_ld 21 hx hb hK hP 1 0 rfl rfl rfl (by decide) dX1_due_116 ?_
        refine lv_iand hx hb dX1_due_117 ?_
        refine lv_aload_n hx hb dX1_due_118 rfl (lv_at hl 3 rfl) ?_
        refine va_get (D := D) (ci := 1) (v := .ref h1) (C := RX1) (T := TX1) (N := 6) hx hb hts hin0 hown hK hP 0 rfl rfl 0 (by decide) (hts (.fieldLink RX1 7 "ControlFileModel" "kept" "[I") (by decide +kernel)) (fun _ h9 => h9) rfl dX1_due_119 ?_
        refine lv_bipush (v := 20) hx hb dX1_due_122 (by decide) ?_
        refine cf_ld 20 hx hb hK hP 1 0 rfl rfl rfl (by decide) dX1_due_124 ?_
        refine lv_iand hx hb dX1_due_125 ?_
        refine lv_bipush (v := 10) hx hb dX1_due_126 (by decide) ?_
        refine lv_iconst (v := 2) hx hb dX1_due_128 (by decide) ?_
        refine lv_bipush (v := 6) hx hb dX1_due_129 (by decide) ?_
        refine cf_callS (As := [.int (((k 24) &&& (k 21)) &&& (k 20)), .int 10, .int 2, .int 6]) (rest := []) ⟨hx, hb, hml, hown, hts⟩ (m_firstOf l D z (((k 24) &&& (k 21)) &&& (k 20)) 10 2 6) (va_cwS 4 hts gX1_due_X1_firstOf rfl rfl rfl (by decide +kernel) ⟨Nat.le_of_ble_eq_true rfl, Nat.le_of_ble_eq_true rfl⟩) (hP.sub (ws' := []) [] rfl) (hK.sub (tys' := []) [] rfl) hZ hS rfl hl.1 rfl (Nat.le_of_ble_eq_true rfl) dX1_due_131 ⟨Nat.zero_le _, Nat.zero_le _⟩ ?_
        refine lv_istore (lv' := [(4, .int (mf_fst (((k 24) &&& (k 21)) &&& (k 20)) 10 2 6)), (3, .int 0), (2, .int (mf_fst (((k 24) &&& (k 21)) &&& ((k 20) ^^^ (-1))) 10 2 6)), (1, .int (mf_fst ((mf_tell k tm al ln 7) &&& (k 1)) 9 1 5)), (0, .ref h0)]) hx hb dX1_due_134 hl (by decide) rfl (fun ls hl => ?_)
        refine lv_aload_n hx hb dX1_due_136 rfl (lv_at hl 4 rfl) ?_
        refine va_get (D := D) (ci := 1) (v := .int md) (C := RX1) (T := TX1) (N := 6) hx hb hts hin0 hown hK hP 0 rfl rfl 1 (by decide) (hts (.fieldLink RX1 16 "ControlFileModel" "mode" "I") (by decide +kernel)) (fun _ h9 => h9) rfl dX1_due_137 ?_
        refine lv_iconst (v := 2) hx hb dX1_due_140 (by decide) ?_
        refine lv_icmp_eq (tgt := 162) hx hb dX1_due_141 (by decide) (fun c_18 => ?_) (fun c_18 => ?_)
        · skip
          refine lv_iconst (v := 1) hx hb dX1_due_162 (by decide) ?_
          refine lv_goto (tgt := 167) hx hb dX1_due_163 (by decide) ?_
          refine lv_istore (lv' := [(5, .int 1), (4, .int (mf_fst (((k 24) &&& (k 21)) &&& (k 20)) 10 2 6)), (3, .int 0), (2, .int (mf_fst (((k 24) &&& (k 21)) &&& ((k 20) ^^^ (-1))) 10 2 6)), (1, .int (mf_fst ((mf_tell k tm al ln 7) &&& (k 1)) 9 1 5)), (0, .ref h0)]) hx hb dX1_due_167 hl (by decide) rfl (fun ls hl => ?_)
          refine lv_iload hx hb dX1_due_169 (lv_at hl 0 rfl) ?_
          refine lv_if_eq (tgt := 190) hx hb dX1_due_171 (by decide) (fun c_19 => ?_) (fun c_19 => ?_)
          · skip
            exact absurd c_19 (by decide)
          · skip
            refine lv_iload hx hb dX1_due_174 (lv_at hl 1 rfl) ?_
            refine lv_iconst (v := -1) hx hb dX1_due_176 (by decide) ?_
            refine lv_icmp_eq (tgt := 190) hx hb dX1_due_177 (by decide) (fun c_20 => ?_) (fun c_20 => ?_)
            · skip
              refine lv_iconst (v := -1) hx hb dX1_due_190 (by decide) ?_
              exact cf_roEnd hx hb hr hlocks (by show -1 = mf_due k md tm al ln; simp only [mf_due, mf_dS, mf_dV, mf_dV1, if_pos c_1, if_pos c_16, if_pos c_17, if_pos c_18, if_neg c_19, if_pos (show (mf_vi k) = (-1) from c_20), ↓reduceIte]) dX1_due_191
            · skip
              refine lv_bipush (v := 100) hx hb dX1_due_180 (by decide) ?_
              refine lv_iload hx hb dX1_due_182 (lv_at hl 1 rfl) ?_
              refine lv_iadd hx hb dX1_due_184 ?_
              refine lv_iconst (v := 1) hx hb dX1_due_185 (by decide) ?_
              refine lv_isub hx hb dX1_due_186 ?_
              refine lv_goto (tgt := 191) hx hb dX1_due_187 (by decide) ?_
              exact cf_roEnd hx hb hr hlocks (by show (100 + (mf_vi k)) - 1 = mf_due k md tm al ln; simp only [mf_due, mf_dS, mf_dV, mf_dV1, if_pos c_1, if_pos c_16, if_pos c_17, if_pos c_18, if_neg c_19, if_neg (show ¬ ((mf_vi k) = (-1)) from c_20), ↓reduceIte]) dX1_due_191
        · skip
          refine lv_aload_n hx hb dX1_due_144 rfl (lv_at hl 4 rfl) ?_
          refine va_get (D := D) (ci := 1) (v := .int md) (C := RX1) (T := TX1) (N := 6) hx hb hts hin0 hown hK hP 0 rfl rfl 1 (by decide) (hts (.fieldLink RX1 16 "ControlFileModel" "mode" "I") (by decide +kernel)) (fun _ h9 => h9) rfl dX1_due_145 ?_
          refine lv_iconst (v := 3) hx hb dX1_due_148 (by decide) ?_
          refine lv_icmp_ne (tgt := 166) hx hb dX1_due_149 (by decide) (fun c_21 => ?_) (fun c_21 => ?_)
          · skip
            refine lv_iconst (v := 0) hx hb dX1_due_166 (by decide) ?_
            refine lv_istore (lv' := [(5, .int 0), (4, .int (mf_fst (((k 24) &&& (k 21)) &&& (k 20)) 10 2 6)), (3, .int 0), (2, .int (mf_fst (((k 24) &&& (k 21)) &&& ((k 20) ^^^ (-1))) 10 2 6)), (1, .int (mf_fst ((mf_tell k tm al ln 7) &&& (k 1)) 9 1 5)), (0, .ref h0)]) hx hb dX1_due_167 hl (by decide) rfl (fun ls hl => ?_)
            refine lv_iload hx hb dX1_due_169 (lv_at hl 0 rfl) ?_
            refine lv_if_eq (tgt := 190) hx hb dX1_due_171 (by decide) (fun c_22 => ?_) (fun c_22 => ?_)
            · skip
              refine lv_iconst (v := -1) hx hb dX1_due_190 (by decide) ?_
              exact cf_roEnd hx hb hr hlocks (by show -1 = mf_due k md tm al ln; simp only [mf_due, mf_dS, mf_dV, mf_dV1, if_pos c_1, if_pos c_16, if_pos c_17, if_neg c_18, if_neg c_21, if_pos c_22, ↓reduceIte]) dX1_due_191
            · skip
              exact absurd c_17 c_22
          · skip
            refine lv_aload_n hx hb dX1_due_152 rfl (lv_at hl 4 rfl) ?_
            refine lv_bipush (v := 9) hx hb dX1_due_153 (by decide) ?_
            refine lv_iconst (v := 1) hx hb dX1_due_155 (by decide) ?_
            refine cf_callV (As := [.int 9, .int 1]) (rest := []) ⟨hx, hb, hml, hown, hts⟩ (m_has l D z h0 h1 cA k md tm al ln od 9 1 9 (by decide) rfl) (cwV 2 hts gX1_due_X1_has rfl rfl rfl (by decide +kernel) ⟨Nat.le_of_ble_eq_true rfl, Nat.le_of_ble_eq_true rfl⟩) hP hK hZ hS (ci := 1) (q0 := 0) rfl rfl rfl rfl hl.1 rfl (Nat.le_of_ble_eq_true rfl) dX1_due_156 ⟨Nat.zero_le _, Nat.zero_le _⟩ ?_
            refine lv_if_eq (tgt := 166) hx hb dX1_due_159 (by decide) (fun c_23 => ?_) (fun c_23 => ?_)
            · skip
              refine lv_iconst (v := 0) hx hb dX1_due_166 (by decide) ?_
              refine lv_istore (lv' := [(5, .int 0), (4, .int (mf_fst (((k 24) &&& (k 21)) &&& (k 20)) 10 2 6)), (3, .int 0), (2, .int (mf_fst (((k 24) &&& (k 21)) &&& ((k 20) ^^^ (-1))) 10 2 6)), (1, .int (mf_fst ((mf_tell k tm al ln 7) &&& (k 1)) 9 1 5)), (0, .ref h0)]) hx hb dX1_due_167 hl (by decide) rfl (fun ls hl => ?_)
              refine lv_iload hx hb dX1_due_169 (lv_at hl 0 rfl) ?_
              refine lv_if_eq (tgt := 190) hx hb dX1_due_171 (by decide) (fun c_24 => ?_) (fun c_24 => ?_)
              · skip
                refine lv_iconst (v := -1) hx hb dX1_due_190 (by decide) ?_
                exact cf_roEnd hx hb hr hlocks (by show -1 = mf_due k md tm al ln; simp only [mf_due, mf_dS, mf_dV, mf_dV1, if_pos c_1, if_pos c_16, if_pos c_17, if_neg c_18, if_pos c_21, if_pos c_23, if_pos c_24, ↓reduceIte]) dX1_due_191
              · skip
                exact absurd c_17 c_24
            · skip
              refine lv_iconst (v := 1) hx hb dX1_due_162 (by decide) ?_
              refine lv_goto (tgt := 167) hx hb dX1_due_163 (by decide) ?_
              refine lv_istore (lv' := [(5, .int 1), (4, .int (mf_fst (((k 24) &&& (k 21)) &&& (k 20)) 10 2 6)), (3, .int 0), (2, .int (mf_fst (((k 24) &&& (k 21)) &&& ((k 20) ^^^ (-1))) 10 2 6)), (1, .int (mf_fst ((mf_tell k tm al ln 7) &&& (k 1)) 9 1 5)), (0, .ref h0)]) hx hb dX1_due_167 hl (by decide) rfl (fun ls hl => ?_)
              refine lv_iload hx hb dX1_due_169 (lv_at hl 0 rfl) ?_
              refine lv_if_eq (tgt := 190) hx hb dX1_due_171 (by decide) (fun c_25 => ?_) (fun c_25 => ?_)
              · skip
                exact absurd c_25 (by decide)
              · skip
                refine lv_iload hx hb dX1_due_174 (lv_at hl 1 rfl) ?_
                refine lv_iconst (v := -1) hx hb dX1_due_176 (by decide) ?_
                refine lv_icmp_eq (tgt := 190) hx hb dX1_due_177 (by decide) (fun c_26 => ?_) (fun c_26 => ?_)
                · skip
                  refine lv_iconst (v := -1) hx hb dX1_due_190 (by decide) ?_
                  exact cf_roEnd hx hb hr hlocks (by show -1 = mf_due k md tm al ln; simp only [mf_due, mf_dS, mf_dV, mf_dV1, if_pos c_1, if_pos c_16, if_pos c_17, if_neg c_18, if_pos c_21, if_neg c_23, if_neg c_25, if_pos (show (mf_vi k) = (-1) from c_26), ↓reduceIte]) dX1_due_191
                · skip
                  refine lv_bipush (v := 100) hx hb dX1_due_180 (by decide) ?_
                  refine lv_iload hx hb dX1_due_182 (lv_at hl 1 rfl) ?_
                  refine lv_iadd hx hb dX1_due_184 ?_
                  refine lv_iconst (v := 1) hx hb dX1_due_185 (by decide) ?_
                  refine lv_isub hx hb dX1_due_186 ?_
                  refine lv_goto (tgt := 191) hx hb dX1_due_187 (by decide) ?_
                  exact cf_roEnd hx hb hr hlocks (by show (100 + (mf_vi k)) - 1 = mf_due k md tm al ln; simp only [mf_due, mf_dS, mf_dV, mf_dV1, if_pos c_1, if_pos c_16, if_pos c_17, if_neg c_18, if_pos c_21, if_neg c_23, if_neg c_25, if_neg (show ¬ ((mf_vi k) = (-1)) from c_26), ↓reduceIte]) dX1_due_191
      · skip
        exact absurd (by decide) c_17
    · skip
      refine lv_iconst (v := 1) hx hb dX1_due_72 (by decide) ?_
      refine lv_goto (tgt := 77) hx hb dX1_due_73 (by decide) ?_
      refine lv_istore_n (lv' := [(3, .int 1), (2, .int (mf_fst (((k 24) &&& (k 21)) &&& ((k 20) ^^^ (-1))) 10 2 6)), (1, .int (mf_fst ((mf_tell k tm al ln 7) &&& (k 1)) 9 1 5)), (0, .ref h0)]) hx hb dX1_due_77 rfl hl (by decide) rfl (fun ls hl => ?_)
      refine lv_iload_n hx hb dX1_due_78 rfl (lv_at hl 0 rfl) ?_
      refine lv_if_eq (tgt := 103) hx hb dX1_due_79 (by decide) (fun c_27 => ?_) (fun c_27 => ?_)
      · skip
        exact absurd c_27 (by decide)
      · skip
        refine lv_iload_n hx hb dX1_due_82 rfl (lv_at hl 2 rfl) ?_
        refine lv_iconst (v := -1) hx hb dX1_due_83 (by decide) ?_
        refine lv_icmp_ne (tgt := 92) hx hb dX1_due_84 (by decide) (fun c_28 => ?_) (fun c_28 => ?_)
        · skip
          refine lv_iload_n hx hb dX1_due_92 rfl (lv_at hl 2 rfl) ?_
          refine lv_iconst (v := -1) hx hb dX1_due_93 (by decide) ?_
          refine lv_icmp_eq (tgt := 101) hx hb dX1_due_94 (by decide) (fun c_29 => ?_) (fun c_29 => ?_)
          · skip
            exact absurd c_29 c_28
          · skip
            refine lv_iload_n hx hb dX1_due_97 rfl (lv_at hl 2 rfl) ?_
            refine lv_goto (tgt := 102) hx hb dX1_due_98 (by decide) ?_
            exact cf_roEnd hx hb hr hlocks (by show mf_own k tm al ln = mf_due k md tm al ln; simp only [mf_due, mf_dS, mf_dV, mf_dV1, if_pos c_1, if_neg c_16, if_neg c_27, if_neg (show ¬ ((mf_own k tm al ln) = (-1)) from c_28), if_neg (show ¬ ((mf_own k tm al ln) = (-1)) from c_29), ↓reduceIte]) dX1_due_102
        · skip
          refine lv_iload_n hx hb dX1_due_87 rfl (lv_at hl 1 rfl) ?_
          refine lv_iconst (v := -1) hx hb dX1_due_88 (by decide) ?_
          refine lv_icmp_eq (tgt := 103) hx hb dX1_due_89 (by decide) (fun c_30 => ?_) (fun c_30 => ?_)
          · skip
            refine lv_aload_n hx hb dX1_due_103 rfl (lv_at hl 3 rfl) ?_
            refine va_get (D := D) (ci := 1) (v := .ref h1) (C := RX1) (T := TX1) (N := 6) hx hb hts hin0 hown hK hP 0 rfl rfl 0 (by decide) (hts (.fieldLink RX1 7 "ControlFileModel" "kept" "[I") (by decide +kernel)) (fun _ h9 => h9) rfl dX1_due_104 ?_
            refine lv_bipush (v := 24) hx hb dX1_due_107 (by decide) ?_
            refine cf_ld 24 hx hb hK hP 1 0 rfl rfl rfl (by decide) dX1_due_109 ?_
            refine lv_aload_n hx hb dX1_due_110 rfl (lv_at hl 3 rfl) ?_
            refine va_get (D := D) (ci := 1) (v := .ref h1) (C := RX1) (T := TX1) (N := 6) hx hb hts hin0 hown hK hP 0 rfl rfl 0 (by decide) (hts (.fieldLink RX1 7 "ControlFileModel" "kept" "[I") (by decide +kernel)) (fun _ h9 => h9) rfl dX1_due_111 ?_
            refine lv_bipush (v := 21) hx hb dX1_due_114 (by decide) ?_
            refine cf_ld 21 hx hb hK hP 1 0 rfl rfl rfl (by decide) dX1_due_116 ?_
            refine lv_iand hx hb dX1_due_117 ?_
            refine lv_aload_n hx hb dX1_due_118 rfl (lv_at hl 3 rfl) ?_
            refine va_get (D := D) (ci := 1) (v := .ref h1) (C := RX1) (T := TX1) (N := 6) hx hb hts hin0 hown hK hP 0 rfl rfl 0 (by decide) (hts (.fieldLink RX1 7 "ControlFileModel" "kept" "[I") (by decide +kernel)) (fun _ h9 => h9) rfl dX1_due_119 ?_
            refine lv_bipush (v := 20) hx hb dX1_due_122 (by decide) ?_
            refine cf_ld 20 hx hb hK hP 1 0 rfl rfl rfl (by decide) dX1_due_124 ?_
            refine lv_iand hx hb dX1_due_125 ?_
            refine lv_bipush (v := 10) hx hb dX1_due_126 (by decide) ?_
            refine lv_iconst (v := 2) hx hb dX1_due_128 (by decide) ?_
            refine lv_bipush (v := 6) hx hb dX1_due_129 (by decide) ?_
            refine cf_callS (As := [.int (((k 24) &&& (k 21)) &&& (k 20)), .int 10, .int 2, .int 6]) (rest := []) ⟨hx, hb, hml, hown, hts⟩ (m_firstOf l D z (((k 24) &&& (k 21)) &&& (k 20)) 10 2 6) (va_cwS 4 hts gX1_due_X1_firstOf rfl rfl rfl (by decide +kernel) ⟨Nat.le_of_ble_eq_true rfl, Nat.le_of_ble_eq_true rfl⟩) (hP.sub (ws' := []) [] rfl) (hK.sub (tys' := []) [] rfl) hZ hS rfl hl.1 rfl (Nat.le_of_ble_eq_true rfl) dX1_due_131 ⟨Nat.zero_le _, Nat.zero_le _⟩ ?_
            refine lv_istore (lv' := [(4, .int (mf_fst (((k 24) &&& (k 21)) &&& (k 20)) 10 2 6)), (3, .int 1), (2, .int (mf_fst (((k 24) &&& (k 21)) &&& ((k 20) ^^^ (-1))) 10 2 6)), (1, .int (mf_fst ((mf_tell k tm al ln 7) &&& (k 1)) 9 1 5)), (0, .ref h0)]) hx hb dX1_due_134 hl (by decide) rfl (fun ls hl => ?_)
            refine lv_aload_n hx hb dX1_due_136 rfl (lv_at hl 4 rfl) ?_
            refine va_get (D := D) (ci := 1) (v := .int md) (C := RX1) (T := TX1) (N := 6) hx hb hts hin0 hown hK hP 0 rfl rfl 1 (by decide) (hts (.fieldLink RX1 16 "ControlFileModel" "mode" "I") (by decide +kernel)) (fun _ h9 => h9) rfl dX1_due_137 ?_
            refine lv_iconst (v := 2) hx hb dX1_due_140 (by decide) ?_
            refine lv_icmp_eq (tgt := 162) hx hb dX1_due_141 (by decide) (fun c_31 => ?_) (fun c_31 => ?_)
            · skip
              refine lv_iconst (v := 1) hx hb dX1_due_162 (by decide) ?_
              refine lv_goto (tgt := 167) hx hb dX1_due_163 (by decide) ?_
              refine lv_istore (lv' := [(5, .int 1), (4, .int (mf_fst (((k 24) &&& (k 21)) &&& (k 20)) 10 2 6)), (3, .int 1), (2, .int (mf_fst (((k 24) &&& (k 21)) &&& ((k 20) ^^^ (-1))) 10 2 6)), (1, .int (mf_fst ((mf_tell k tm al ln 7) &&& (k 1)) 9 1 5)), (0, .ref h0)]) hx hb dX1_due_167 hl (by decide) rfl (fun ls hl => ?_)
              refine lv_iload hx hb dX1_due_169 (lv_at hl 0 rfl) ?_
              refine lv_if_eq (tgt := 190) hx hb dX1_due_171 (by decide) (fun c_32 => ?_) (fun c_32 => ?_)
              · skip
                exact absurd c_32 c_27
              · skip
                refine lv_iload hx hb dX1_due_174 (lv_at hl 1 rfl) ?_
                refine lv_iconst (v := -1) hx hb dX1_due_176 (by decide) ?_
                refine lv_icmp_eq (tgt := 190) hx hb dX1_due_177 (by decide) (fun c_33 => ?_) (fun c_33 => ?_)
                · skip
                  refine lv_iconst (v := -1) hx hb dX1_due_190 (by decide) ?_
                  exact cf_roEnd hx hb hr hlocks (by show -1 = mf_due k md tm al ln; simp only [mf_due, mf_dS, mf_dV, mf_dV1, if_pos c_1, if_neg c_16, if_neg c_27, if_pos (show (mf_own k tm al ln) = (-1) from c_28), if_pos (show (mf_hy k) = (-1) from c_30), if_pos c_31, if_neg c_32, if_pos (show (mf_vi k) = (-1) from c_33), ↓reduceIte]) dX1_due_191
                · skip
                  refine lv_bipush (v := 100) hx hb dX1_due_180 (by decide) ?_
                  refine lv_iload hx hb dX1_due_182 (lv_at hl 1 rfl) ?_
                  refine lv_iadd hx hb dX1_due_184 ?_
                  refine lv_iconst (v := 1) hx hb dX1_due_185 (by decide) ?_
                  refine lv_isub hx hb dX1_due_186 ?_
                  refine lv_goto (tgt := 191) hx hb dX1_due_187 (by decide) ?_
                  exact cf_roEnd hx hb hr hlocks (by show (100 + (mf_vi k)) - 1 = mf_due k md tm al ln; simp only [mf_due, mf_dS, mf_dV, mf_dV1, if_pos c_1, if_neg c_16, if_neg c_27, if_pos (show (mf_own k tm al ln) = (-1) from c_28), if_pos (show (mf_hy k) = (-1) from c_30), if_pos c_31, if_neg c_32, if_neg (show ¬ ((mf_vi k) = (-1)) from c_33), ↓reduceIte]) dX1_due_191
            · skip
              refine lv_aload_n hx hb dX1_due_144 rfl (lv_at hl 4 rfl) ?_
              refine va_get (D := D) (ci := 1) (v := .int md) (C := RX1) (T := TX1) (N := 6) hx hb hts hin0 hown hK hP 0 rfl rfl 1 (by decide) (hts (.fieldLink RX1 16 "ControlFileModel" "mode" "I") (by decide +kernel)) (fun _ h9 => h9) rfl dX1_due_145 ?_
              refine lv_iconst (v := 3) hx hb dX1_due_148 (by decide) ?_
              refine lv_icmp_ne (tgt := 166) hx hb dX1_due_149 (by decide) (fun c_34 => ?_) (fun c_34 => ?_)
              · skip
                refine lv_iconst (v := 0) hx hb dX1_due_166 (by decide) ?_
                refine lv_istore (lv' := [(5, .int 0), (4, .int (mf_fst (((k 24) &&& (k 21)) &&& (k 20)) 10 2 6)), (3, .int 1), (2, .int (mf_fst (((k 24) &&& (k 21)) &&& ((k 20) ^^^ (-1))) 10 2 6)), (1, .int (mf_fst ((mf_tell k tm al ln 7) &&& (k 1)) 9 1 5)), (0, .ref h0)]) hx hb dX1_due_167 hl (by decide) rfl (fun ls hl => ?_)
                refine lv_iload hx hb dX1_due_169 (lv_at hl 0 rfl) ?_
                refine lv_if_eq (tgt := 190) hx hb dX1_due_171 (by decide) (fun c_35 => ?_) (fun c_35 => ?_)
                · skip
                  refine lv_iconst (v := -1) hx hb dX1_due_190 (by decide) ?_
                  exact cf_roEnd hx hb hr hlocks (by show -1 = mf_due k md tm al ln; simp only [mf_due, mf_dS, mf_dV, mf_dV1, if_pos c_1, if_neg c_16, if_neg c_27, if_pos (show (mf_own k tm al ln) = (-1) from c_28), if_pos (show (mf_hy k) = (-1) from c_30), if_neg c_31, if_neg c_34, if_pos c_35, ↓reduceIte]) dX1_due_191
                · skip
                  exact absurd (by decide) c_35
              · skip
                refine lv_aload_n hx hb dX1_due_152 rfl (lv_at hl 4 rfl) ?_
                refine lv_bipush (v := 9) hx hb dX1_due_153 (by decide) ?_
                refine lv_iconst (v := 1) hx hb dX1_due_155 (by decide) ?_
                refine cf_callV (As := [.int 9, .int 1]) (rest := []) ⟨hx, hb, hml, hown, hts⟩ (m_has l D z h0 h1 cA k md tm al ln od 9 1 9 (by decide) rfl) (cwV 2 hts gX1_due_X1_has rfl rfl rfl (by decide +kernel) ⟨Nat.le_of_ble_eq_true rfl, Nat.le_of_ble_eq_true rfl⟩) hP hK hZ hS (ci := 1) (q0 := 0) rfl rfl rfl rfl hl.1 rfl (Nat.le_of_ble_eq_true rfl) dX1_due_156 ⟨Nat.zero_le _, Nat.zero_le _⟩ ?_
                refine lv_if_eq (tgt := 166) hx hb dX1_due_159 (by decide) (fun c_36 => ?_) (fun c_36 => ?_)
                · skip
                  refine lv_iconst (v := 0) hx hb dX1_due_166 (by decide) ?_
                  refine lv_istore (lv' := [(5, .int 0), (4, .int (mf_fst (((k 24) &&& (k 21)) &&& (k 20)) 10 2 6)), (3, .int 1), (2, .int (mf_fst (((k 24) &&& (k 21)) &&& ((k 20) ^^^ (-1))) 10 2 6)), (1, .int (mf_fst ((mf_tell k tm al ln 7) &&& (k 1)) 9 1 5)), (0, .ref h0)]) hx hb dX1_due_167 hl (by decide) rfl (fun ls hl => ?_)
                  refine lv_iload hx hb dX1_due_169 (lv_at hl 0 rfl) ?_
                  refine lv_if_eq (tgt := 190) hx hb dX1_due_171 (by decide) (fun c_37 => ?_) (fun c_37 => ?_)
                  · skip
                    refine lv_iconst (v := -1) hx hb dX1_due_190 (by decide) ?_
                    exact cf_roEnd hx hb hr hlocks (by show -1 = mf_due k md tm al ln; simp only [mf_due, mf_dS, mf_dV, mf_dV1, if_pos c_1, if_neg c_16, if_neg c_27, if_pos (show (mf_own k tm al ln) = (-1) from c_28), if_pos (show (mf_hy k) = (-1) from c_30), if_neg c_31, if_pos c_34, if_pos c_36, if_pos c_37, ↓reduceIte]) dX1_due_191
                  · skip
                    exact absurd (by decide) c_37
                · skip
                  refine lv_iconst (v := 1) hx hb dX1_due_162 (by decide) ?_
                  refine lv_goto (tgt := 167) hx hb dX1_due_163 (by decide) ?_
                  refine lv_istore (lv' := [(5, .int 1), (4, .int (mf_fst (((k 24) &&& (k 21)) &&& (k 20)) 10 2 6)), (3, .int 1), (2, .int (mf_fst (((k 24) &&& (k 21)) &&& ((k 20) ^^^ (-1))) 10 2 6)), (1, .int (mf_fst ((mf_tell k tm al ln 7) &&& (k 1)) 9 1 5)), (0, .ref h0)]) hx hb dX1_due_167 hl (by decide) rfl (fun ls hl => ?_)
                  refine lv_iload hx hb dX1_due_169 (lv_at hl 0 rfl) ?_
                  refine lv_if_eq (tgt := 190) hx hb dX1_due_171 (by decide) (fun c_38 => ?_) (fun c_38 => ?_)
                  · skip
                    exact absurd c_38 c_27
                  · skip
                    refine lv_iload hx hb dX1_due_174 (lv_at hl 1 rfl) ?_
                    refine lv_iconst (v := -1) hx hb dX1_due_176 (by decide) ?_
                    refine lv_icmp_eq (tgt := 190) hx hb dX1_due_177 (by decide) (fun c_39 => ?_) (fun c_39 => ?_)
                    · skip
                      refine lv_iconst (v := -1) hx hb dX1_due_190 (by decide) ?_
                      exact cf_roEnd hx hb hr hlocks (by show -1 = mf_due k md tm al ln; simp only [mf_due, mf_dS, mf_dV, mf_dV1, if_pos c_1, if_neg c_16, if_neg c_27, if_pos (show (mf_own k tm al ln) = (-1) from c_28), if_pos (show (mf_hy k) = (-1) from c_30), if_neg c_31, if_pos c_34, if_neg c_36, if_neg c_38, if_pos (show (mf_vi k) = (-1) from c_39), ↓reduceIte]) dX1_due_191
                    · skip
                      refine lv_bipush (v := 100) hx hb dX1_due_180 (by decide) ?_
                      refine lv_iload hx hb dX1_due_182 (lv_at hl 1 rfl) ?_
                      refine lv_iadd hx hb dX1_due_184 ?_
                      refine lv_iconst (v := 1) hx hb dX1_due_185 (by decide) ?_
                      refine lv_isub hx hb dX1_due_186 ?_
                      refine lv_goto (tgt := 191) hx hb dX1_due_187 (by decide) ?_
                      exact cf_roEnd hx hb hr hlocks (by show (100 + (mf_vi k)) - 1 = mf_due k md tm al ln; simp only [mf_due, mf_dS, mf_dV, mf_dV1, if_pos c_1, if_neg c_16, if_neg c_27, if_pos (show (mf_own k tm al ln) = (-1) from c_28), if_pos (show (mf_hy k) = (-1) from c_30), if_neg c_31, if_pos c_34, if_neg c_36, if_neg c_38, if_neg (show ¬ ((mf_vi k) = (-1)) from c_39), ↓reduceIte]) dX1_due_191
          · skip
            refine lv_iload_n hx hb dX1_due_92 rfl (lv_at hl 2 rfl) ?_
            refine lv_iconst (v := -1) hx hb dX1_due_93 (by decide) ?_
            refine lv_icmp_eq (tgt := 101) hx hb dX1_due_94 (by decide) (fun c_40 => ?_) (fun c_40 => ?_)
            · skip
              refine lv_iload_n hx hb dX1_due_101 rfl (lv_at hl 1 rfl) ?_
              exact cf_roEnd hx hb hr hlocks (by show mf_hy k = mf_due k md tm al ln; simp only [mf_due, mf_dS, mf_dV, mf_dV1, if_pos c_1, if_neg c_16, if_neg c_27, if_pos (show (mf_own k tm al ln) = (-1) from c_28), if_neg (show ¬ ((mf_hy k) = (-1)) from c_30), if_pos (show (mf_own k tm al ln) = (-1) from c_40), ↓reduceIte]) dX1_due_102
            · skip
              exact absurd c_28 c_40
end
section
set_option maxHeartbeats 4000000 in
set_option maxRecDepth 100000 in
theorem m_mode (l : Launch) (D : va_G) (z : Nat → Nat) (h0 h1 : Nat) (cA : ClassId) (k : Nat → Int32) (md : Int32) (tm al : Int64) (ln od : Int32) (sz : Nat) (x : Int32) : Met l yX1_mode wsX1_mode ({ frames := 0, cells := 0, slots := 0, locals := 0 } : Room) (cf_wr [.ref h0, .int x] D (cf_W 1 h0 h1 cA k md tm al ln od) [(cA, .int)] sz z) (va_Qi (fun r u => r = cf_mdR md x ∧ u = cf_W 1 h0 h1 cA k (cf_mdM md x) tm al ln od) (cf_B D [(cA, .int)] (va_A (cf_W 1 h0 h1 cA k md tm al ln od) sz)) (va_A (cf_W 1 h0 h1 cA k md tm al ln od) sz)) 0 0 (va_A (cf_W 1 h0 h1 cA k md tm al ln od) sz) := by
  refine Met.ofW (cc := cX1_mode) (maxL := 3) (ret := (some .int)) (by decide) rfl ?_
  intro p e s m args below meth c s₁ B hml hv
  obtain ⟨rfl, hsz, hP, hK, hD0, hZ⟩ := hv
  have hx := B.exec
  have hb := B.bytes
  have hr := B.returns
  have hts := atoms_spec (ws := wsX1_mode) B.pre
  have hown : s.vm.findClass RX1 = some m.cls := findClass_of_methodNamed B.named
  have hlocks := B.notSynchronized
  have hin0 : ∀ w ∈ wsX10, w ∈ wsX1_mode := by decide +kernel
  subst hsz
  have hD := hD0.self (sz := s.heap.size)
  generalize hAe : va_A (cf_W 1 h0 h1 cA k md tm al ln od) s.heap.size = A at hD hZ ⊢
  have hA : ∀ q : Nat, s.heap.size ≤ q → A q := fun q h => by rw [← hAe]; exact Or.inr h
  have hS : va_S A s.heap s.heap [] := va_S.rf
  have hl := lv_entry ([.ref h0, .int x]) (n := 3) (Nat.le_of_ble_eq_true rfl)
  rw [lg_entry_eq]
  generalize (lg_sl ([.ref h0, .int x]) ++ List.replicate (3 - (lg_sl ([.ref h0, .int x])).length) Slot.unset).toArray = ls at hl ⊢
  have hl : lv_has ls 3 [(0, .ref h0), (1, .int x)] := hl
  refine lv_iload_n hx hb dX1_mode_0 rfl (lv_at hl 1 rfl) ?_
  refine lv_if_lt (tgt := 9) hx hb dX1_mode_1 (by decide) (fun c_1 => ?_) (fun c_1 => ?_)
  · skip
    refine lv_iconst (v := -1) hx hb dX1_mode_9 (by decide) ?_
    exact cf_wrEnd hx hb hr hlocks hP hD hK hS (by simp only [cf_mdR, cf_mdM, if_pos c_1, if_neg cf_n10, if_pos cf_p00, ↓reduceIte]) (by simp only [cf_mdR, cf_mdM, if_pos c_1, if_neg cf_n10, if_pos cf_p00, ↓reduceIte]) dX1_mode_10
  · skip
    refine lv_iload_n hx hb dX1_mode_4 rfl (lv_at hl 1 rfl) ?_
    refine lv_iconst (v := 3) hx hb dX1_mode_5 (by decide) ?_
    refine lv_icmp_le (tgt := 11) hx hb dX1_mode_6 (by decide) (fun c_2 => ?_) (fun c_2 => ?_)
    · skip
      refine lv_aload_n hx hb dX1_mode_11 rfl (lv_at hl 0 rfl) ?_
      refine va_get (D := D) (ci := 1) (v := .int md) (C := RX1) (T := TX1) (N := 6) hx hb hts hin0 hown hK hP 0 rfl rfl 1 (by decide) (hts (.fieldLink RX1 16 "ControlFileModel" "mode" "I") (by decide +kernel)) (fun _ h9 => h9) rfl dX1_mode_12 ?_
      refine lv_istore_n (lv' := [(2, .int md), (0, .ref h0), (1, .int x)]) hx hb dX1_mode_15 rfl hl (by decide) rfl (fun ls hl => ?_)
      refine lv_aload_n hx hb dX1_mode_16 rfl (lv_at hl 1 rfl) ?_
      refine lv_iload_n hx hb dX1_mode_17 rfl (lv_at hl 2 rfl) ?_
      refine va_put (D := D) (ci := 1) (v := .int x) (ty := .int) (C := RX1) (T := TX1) (N := 6) hx hb hts hin0 tyX1 tyX1_ok nmX1 hown hK hP hD hS 0 rfl rfl 1 (by decide) (hts (.fieldLink RX1 16 "ControlFileModel" "mode" "I") (by decide +kernel)) (fun _ h9 => h9) rfl (by decide +kernel) rfl rfl (Nat.le_of_ble_eq_true rfl) dX1_mode_18 (fun H locs hP hD hS => ?_)
      have hP : va_P D vwCl (cf_W 1 h0 h1 cA k x tm al ln od) H := hP
      have hD : va_D A (cf_W 1 h0 h1 cA k x tm al ln od) := hD
      refine lv_iload_n hx hb dX1_mode_21 rfl (lv_at hl 0 rfl) ?_
      exact cf_wrEnd hx hb hr hlocks hP hD hK hS (by simp only [cf_mdR, cf_mdM, if_neg c_1, if_pos c_2, if_neg cf_n10, if_pos cf_p00, ↓reduceIte]) (by simp only [cf_mdR, cf_mdM, if_neg c_1, if_pos c_2, if_neg cf_n10, if_pos cf_p00, ↓reduceIte]) dX1_mode_22
    · skip
      refine lv_iconst (v := -1) hx hb dX1_mode_9 (by decide) ?_
      exact cf_wrEnd hx hb hr hlocks hP hD hK hS (by simp only [cf_mdR, cf_mdM, if_neg c_1, if_neg c_2, if_neg cf_n10, if_pos cf_p00, ↓reduceIte]) (by simp only [cf_mdR, cf_mdM, if_neg c_1, if_neg c_2, if_neg cf_n10, if_pos cf_p00, ↓reduceIte]) dX1_mode_10
set_option maxHeartbeats 4000000 in
set_option maxRecDepth 100000 in
theorem m_time (l : Launch) (D : va_G) (z : Nat → Nat) (h0 h1 : Nat) (cA : ClassId) (k : Nat → Int32) (md : Int32) (tm al : Int64) (ln od : Int32) (sz : Nat) (t : Int64) : Met l yX1_time wsX1_time ({ frames := 0, cells := 0, slots := 0, locals := 0 } : Room) (cf_wr [.ref h0, .long t] D (cf_W 1 h0 h1 cA k md tm al ln od) [(cA, .int)] sz z) (va_Ql (fun r u => r = cf_tmR tm t ∧ u = cf_W 1 h0 h1 cA k md (cf_tmM tm t) al ln od) (cf_B D [(cA, .int)] (va_A (cf_W 1 h0 h1 cA k md tm al ln od) sz)) (va_A (cf_W 1 h0 h1 cA k md tm al ln od) sz)) 0 0 (va_A (cf_W 1 h0 h1 cA k md tm al ln od) sz) := by
  refine Met.ofW (cc := cX1_time) (maxL := 5) (ret := (some .long)) (by decide) rfl ?_
  intro p e s m args below meth c s₁ B hml hv
  obtain ⟨rfl, hsz, hP, hK, hD0, hZ⟩ := hv
  have hx := B.exec
  have hb := B.bytes
  have hr := B.returns
  have hts := atoms_spec (ws := wsX1_time) B.pre
  have hown : s.vm.findClass RX1 = some m.cls := findClass_of_methodNamed B.named
  have hlocks := B.notSynchronized
  have hin0 : ∀ w ∈ wsX10, w ∈ wsX1_time := by decide +kernel
  subst hsz
  have hD := hD0.self (sz := s.heap.size)
  generalize hAe : va_A (cf_W 1 h0 h1 cA k md tm al ln od) s.heap.size = A at hD hZ ⊢
  have hA : ∀ q : Nat, s.heap.size ≤ q → A q := fun q h => by rw [← hAe]; exact Or.inr h
  have hS : va_S A s.heap s.heap [] := va_S.rf
  have hl := lv_entry ([.ref h0, .long t]) (n := 5) (Nat.le_of_ble_eq_true rfl)
  rw [lg_entry_eq]
  generalize (lg_sl ([.ref h0, .long t]) ++ List.replicate (5 - (lg_sl ([.ref h0, .long t])).length) Slot.unset).toArray = ls at hl ⊢
  have hl : lv_has ls 5 [(0, .ref h0), (1, .long t)] := hl
  refine lv_lload_n hx hb dX1_time_0 rfl (lv_at hl 1 rfl) ?_
  refine lv_lconst (v := 0) hx hb dX1_time_1 (by decide) ?_
  refine W.lcmp hx hb dX1_time_2 ?_
  refine lv_if_ge (tgt := 10) hx hb dX1_time_3 (by decide) (fun c_1 => ?_) (fun c_1 => ?_)
  · skip
    refine lv_aload_n hx hb dX1_time_10 rfl (lv_at hl 0 rfl) ?_
    refine va_get (D := D) (ci := 1) (v := .long tm) (C := RX1) (T := TX1) (N := 6) hx hb hts hin0 hown hK hP 0 rfl rfl 2 (by decide) (hts (.fieldLink RX1 20 "ControlFileModel" "time" "J") (by decide +kernel)) (fun _ h9 => h9) rfl dX1_time_11 ?_
    refine lv_lstore_n (lv' := [(3, .long tm), (0, .ref h0), (1, .long t)]) hx hb dX1_time_14 rfl hl (by decide) rfl (fun ls hl => ?_)
    refine lv_aload_n hx hb dX1_time_15 rfl (lv_at hl 1 rfl) ?_
    refine lv_lload_n hx hb dX1_time_16 rfl (lv_at hl 2 rfl) ?_
    refine va_put (D := D) (ci := 1) (v := .long t) (ty := .long) (C := RX1) (T := TX1) (N := 6) hx hb hts hin0 tyX1 tyX1_ok nmX1 hown hK hP hD hS 0 rfl rfl 2 (by decide) (hts (.fieldLink RX1 20 "ControlFileModel" "time" "J") (by decide +kernel)) (fun _ h9 => h9) rfl (by decide +kernel) rfl rfl (Nat.le_of_ble_eq_true rfl) dX1_time_17 (fun H locs hP hD hS => ?_)
    have hP : va_P D vwCl (cf_W 1 h0 h1 cA k md t al ln od) H := hP
    have hD : va_D A (cf_W 1 h0 h1 cA k md t al ln od) := hD
    refine lv_lload_n hx hb dX1_time_20 rfl (lv_at hl 0 rfl) ?_
    exact cf_wrEndL hx hb hr hlocks hP hD hK hS (by simp only [cf_tmR, cf_tmM, if_pos c_1, if_neg cf_n10, if_pos cf_p00, ↓reduceIte]) (by simp only [cf_tmR, cf_tmM, if_pos c_1, if_neg cf_n10, if_pos cf_p00, ↓reduceIte]) dX1_time_21
  · skip
    refine lv_ldc2 (own := RX1) (v := -1) hx hb hown (hts (.constantLong RX1 36 (-1)) (by decide +kernel)) dX1_time_6 ?_
    exact cf_wrEndL hx hb hr hlocks hP hD hK hS (by simp only [cf_tmR, cf_tmM, if_neg c_1, if_neg cf_n10, if_pos cf_p00, ↓reduceIte]) (by simp only [cf_tmR, cf_tmM, if_neg c_1, if_neg cf_n10, if_pos cf_p00, ↓reduceIte]) dX1_time_9
set_option maxHeartbeats 4000000 in
set_option maxRecDepth 100000 in
theorem m_alarm (l : Launch) (D : va_G) (z : Nat → Nat) (h0 h1 : Nat) (cA : ClassId) (k : Nat → Int32) (md : Int32) (tm al : Int64) (ln od : Int32) (sz : Nat) (t : Int64) : Met l yX1_alarm wsX1_alarm ({ frames := 0, cells := 0, slots := 0, locals := 0 } : Room) (cf_wr [.ref h0, .long t] D (cf_W 1 h0 h1 cA k md tm al ln od) [(cA, .int)] sz z) (va_Ql (fun r u => r = al ∧ u = cf_W 1 h0 h1 cA k md tm (cf_alM t) ln od) (cf_B D [(cA, .int)] (va_A (cf_W 1 h0 h1 cA k md tm al ln od) sz)) (va_A (cf_W 1 h0 h1 cA k md tm al ln od) sz)) 0 0 (va_A (cf_W 1 h0 h1 cA k md tm al ln od) sz) := by
  refine Met.ofW (cc := cX1_alarm) (maxL := 5) (ret := (some .long)) (by decide) rfl ?_
  intro p e s m args below meth c s₁ B hml hv
  obtain ⟨rfl, hsz, hP, hK, hD0, hZ⟩ := hv
  have hx := B.exec
  have hb := B.bytes
  have hr := B.returns
  have hts := atoms_spec (ws := wsX1_alarm) B.pre
  have hown : s.vm.findClass RX1 = some m.cls := findClass_of_methodNamed B.named
  have hlocks := B.notSynchronized
  have hin0 : ∀ w ∈ wsX10, w ∈ wsX1_alarm := by decide +kernel
  subst hsz
  have hD := hD0.self (sz := s.heap.size)
  generalize hAe : va_A (cf_W 1 h0 h1 cA k md tm al ln od) s.heap.size = A at hD hZ ⊢
  have hA : ∀ q : Nat, s.heap.size ≤ q → A q := fun q h => by rw [← hAe]; exact Or.inr h
  have hS : va_S A s.heap s.heap [] := va_S.rf
  have hl := lv_entry ([.ref h0, .long t]) (n := 5) (Nat.le_of_ble_eq_true rfl)
  rw [lg_entry_eq]
  generalize (lg_sl ([.ref h0, .long t]) ++ List.replicate (5 - (lg_sl ([.ref h0, .long t])).length) Slot.unset).toArray = ls at hl ⊢
  have hl : lv_has ls 5 [(0, .ref h0), (1, .long t)] := hl
  refine lv_aload_n hx hb dX1_alarm_0 rfl (lv_at hl 0 rfl) ?_
  refine va_get (D := D) (ci := 1) (v := .long al) (C := RX1) (T := TX1) (N := 6) hx hb hts hin0 hown hK hP 0 rfl rfl 3 (by decide) (hts (.fieldLink RX1 26 "ControlFileModel" "alarm" "J") (by decide +kernel)) (fun _ h9 => h9) rfl dX1_alarm_1 ?_
  refine lv_lstore_n (lv' := [(3, .long al), (0, .ref h0), (1, .long t)]) hx hb dX1_alarm_4 rfl hl (by decide) rfl (fun ls hl => ?_)
  refine lv_aload_n hx hb dX1_alarm_5 rfl (lv_at hl 1 rfl) ?_
  refine lv_lload_n hx hb dX1_alarm_6 rfl (lv_at hl 2 rfl) ?_
  refine lv_lconst (v := 0) hx hb dX1_alarm_7 (by decide) ?_
  refine W.lcmp hx hb dX1_alarm_8 ?_
  refine lv_if_ge (tgt := 18) hx hb dX1_alarm_9 (by decide) (fun c_1 => ?_) (fun c_1 => ?_)
  · skip
    refine lv_lload_n hx hb dX1_alarm_18 rfl (lv_at hl 2 rfl) ?_
    refine va_put (D := D) (ci := 1) (v := .long t) (ty := .long) (C := RX1) (T := TX1) (N := 6) hx hb hts hin0 tyX1 tyX1_ok nmX1 hown hK hP hD hS 0 rfl rfl 3 (by decide) (hts (.fieldLink RX1 26 "ControlFileModel" "alarm" "J") (by decide +kernel)) (fun _ h9 => h9) rfl (by decide +kernel) rfl rfl (Nat.le_of_ble_eq_true rfl) dX1_alarm_19 (fun H locs hP hD hS => ?_)
    have hP : va_P D vwCl (cf_W 1 h0 h1 cA k md tm t ln od) H := hP
    have hD : va_D A (cf_W 1 h0 h1 cA k md tm t ln od) := hD
    refine lv_lload_n hx hb dX1_alarm_22 rfl (lv_at hl 0 rfl) ?_
    exact cf_wrEndL hx hb hr hlocks hP hD hK hS rfl (by simp only [cf_alM, if_pos c_1, if_neg cf_n10, if_pos cf_p00, ↓reduceIte]) dX1_alarm_23
  · skip
    refine lv_ldc2 (own := RX1) (v := 9223372036854775807) hx hb hown (hts (.constantLong RX1 24 9223372036854775807) (by decide +kernel)) dX1_alarm_12 ?_
    refine lv_goto (tgt := 19) hx hb dX1_alarm_15 (by decide) ?_
    refine va_put (D := D) (ci := 1) (v := .long 9223372036854775807) (ty := .long) (C := RX1) (T := TX1) (N := 6) hx hb hts hin0 tyX1 tyX1_ok nmX1 hown hK hP hD hS 0 rfl rfl 3 (by decide) (hts (.fieldLink RX1 26 "ControlFileModel" "alarm" "J") (by decide +kernel)) (fun _ h9 => h9) rfl (by decide +kernel) rfl rfl (Nat.le_of_ble_eq_true rfl) dX1_alarm_19 (fun H locs hP hD hS => ?_)
    have hP : va_P D vwCl (cf_W 1 h0 h1 cA k md tm 9223372036854775807 ln od) H := hP
    have hD : va_D A (cf_W 1 h0 h1 cA k md tm 9223372036854775807 ln od) := hD
    refine lv_lload_n hx hb dX1_alarm_22 rfl (lv_at hl 0 rfl) ?_
    exact cf_wrEndL hx hb hr hlocks hP hD hK hS rfl (by simp only [cf_alM, if_neg c_1, if_neg cf_n10, if_pos cf_p00, ↓reduceIte]) dX1_alarm_23
set_option maxHeartbeats 4000000 in
set_option maxRecDepth 100000 in
theorem m_line (l : Launch) (D : va_G) (z : Nat → Nat) (h0 h1 : Nat) (cA : ClassId) (k : Nat → Int32) (md : Int32) (tm al : Int64) (ln od : Int32) (sz : Nat) (on : Int32) (hln : ln = 0 ∨ ln = 1) (hon : on = 0 ∨ on = 1) : Met l yX1_line wsX1_line ({ frames := 0, cells := 0, slots := 0, locals := 0 } : Room) (cf_wr [.ref h0, .int on] D (cf_W 1 h0 h1 cA k md tm al ln od) [(cA, .int)] sz z) (va_Qi (fun r u => r = ln ∧ u = cf_W 1 h0 h1 cA k md tm al on od) (cf_B D [(cA, .int)] (va_A (cf_W 1 h0 h1 cA k md tm al ln od) sz)) (va_A (cf_W 1 h0 h1 cA k md tm al ln od) sz)) 0 0 (va_A (cf_W 1 h0 h1 cA k md tm al ln od) sz) := by
  refine Met.ofW (cc := cX1_line) (maxL := 3) (ret := (some .boolean)) (by decide) rfl ?_
  intro p e s m args below meth c s₁ B hml hv
  obtain ⟨rfl, hsz, hP, hK, hD0, hZ⟩ := hv
  have hx := B.exec
  have hb := B.bytes
  have hr := B.returns
  have hts := atoms_spec (ws := wsX1_line) B.pre
  have hown : s.vm.findClass RX1 = some m.cls := findClass_of_methodNamed B.named
  have hlocks := B.notSynchronized
  have hin0 : ∀ w ∈ wsX10, w ∈ wsX1_line := by decide +kernel
  subst hsz
  have hD := hD0.self (sz := s.heap.size)
  generalize hAe : va_A (cf_W 1 h0 h1 cA k md tm al ln od) s.heap.size = A at hD hZ ⊢
  have hA : ∀ q : Nat, s.heap.size ≤ q → A q := fun q h => by rw [← hAe]; exact Or.inr h
  have hS : va_S A s.heap s.heap [] := va_S.rf
  have hl := lv_entry ([.ref h0, .int on]) (n := 3) (Nat.le_of_ble_eq_true rfl)
  rw [lg_entry_eq]
  generalize (lg_sl ([.ref h0, .int on]) ++ List.replicate (3 - (lg_sl ([.ref h0, .int on])).length) Slot.unset).toArray = ls at hl ⊢
  have hl : lv_has ls 3 [(0, .ref h0), (1, .int on)] := hl
  refine lv_aload_n hx hb dX1_line_0 rfl (lv_at hl 0 rfl) ?_
  refine va_get (D := D) (ci := 1) (v := .int ln) (C := RX1) (T := TX1) (N := 6) hx hb hts hin0 hown hK hP 0 rfl rfl 4 (by decide) (hts (.fieldLink RX1 29 "ControlFileModel" "line" "Z") (by decide +kernel)) (fun _ h9 => h9) rfl dX1_line_1 ?_
  refine lv_istore_n (lv' := [(2, .int ln), (0, .ref h0), (1, .int on)]) hx hb dX1_line_4 rfl hl (by decide) rfl (fun ls hl => ?_)
  refine lv_aload_n hx hb dX1_line_5 rfl (lv_at hl 1 rfl) ?_
  refine lv_iload_n hx hb dX1_line_6 rfl (lv_at hl 2 rfl) ?_
  refine va_put (D := D) (ci := 1) (v := .int on) (ty := .boolean) (C := RX1) (T := TX1) (N := 6) hx hb hts hin0 tyX1 tyX1_ok nmX1 hown hK hP hD hS 0 rfl rfl 4 (by decide) (hts (.fieldLink RX1 29 "ControlFileModel" "line" "Z") (by decide +kernel)) (fun _ h9 => h9) rfl (by decide +kernel) (by rcases hon with rfl | rfl <;> rfl) (by rcases hon with rfl | rfl <;> rfl) (Nat.le_of_ble_eq_true rfl) dX1_line_7 (fun H locs hP hD hS => ?_)
  have hP : va_P D vwCl (cf_W 1 h0 h1 cA k md tm al on od) H := hP
  have hD : va_D A (cf_W 1 h0 h1 cA k md tm al on od) := hD
  refine lv_iload_n hx hb dX1_line_10 rfl (lv_at hl 0 rfl) ?_
  exact cf_wrEndZ hx hb hr hlocks (by rcases hln with rfl | rfl <;> rfl) hP hD hK hS (rfl) (rfl) dX1_line_11
set_option maxHeartbeats 4000000 in
set_option maxRecDepth 100000 in
theorem m_put (l : Launch) (D : va_G) (z : Nat → Nat) (h0 h1 : Nat) (cA : ClassId) (k : Nat → Int32) (md : Int32) (tm al : Int64) (ln od : Int32) (sz : Nat) (x : Int32) (b : Int32) (v : Int32) (hin : vp_in x 29) : Met l yX1_put wsX1_put ({ frames := 0, cells := 0, slots := 0, locals := 0 } : Room) (cf_wr [.ref h0, .int x, .int b, .int v] D (cf_W 1 h0 h1 cA k md tm al ln od) [(cA, .int)] sz z) (va_Qv (fun u => u = cf_W 1 h0 h1 cA (mf_put k x b v) md tm al ln od) (cf_B D [(cA, .int)] (va_A (cf_W 1 h0 h1 cA k md tm al ln od) sz)) (va_A (cf_W 1 h0 h1 cA k md tm al ln od) sz)) 0 0 (va_A (cf_W 1 h0 h1 cA k md tm al ln od) sz) := by
  refine Met.ofW (cc := cX1_put) (maxL := 4) (ret := none) (by decide) rfl ?_
  intro p e s m args below meth c s₁ B hml hv
  obtain ⟨rfl, hsz, hP, hK, hD0, hZ⟩ := hv
  have hx := B.exec
  have hb := B.bytes
  have hr := B.returns
  have hts := atoms_spec (ws := wsX1_put) B.pre
  have hown : s.vm.findClass RX1 = some m.cls := findClass_of_methodNamed B.named
  have hlocks := B.notSynchronized
  have hin0 : ∀ w ∈ wsX10, w ∈ wsX1_put := by decide +kernel
  subst hsz
  have hD := hD0.self (sz := s.heap.size)
  generalize hAe : va_A (cf_W 1 h0 h1 cA k md tm al ln od) s.heap.size = A at hD hZ ⊢
  have hA : ∀ q : Nat, s.heap.size ≤ q → A q := fun q h => by rw [← hAe]; exact Or.inr h
  have hS : va_S A s.heap s.heap [] := va_S.rf
  have hl := lv_entry ([.ref h0, .int x, .int b, .int v]) (n := 4) (Nat.le_of_ble_eq_true rfl)
  rw [lg_entry_eq]
  generalize (lg_sl ([.ref h0, .int x, .int b, .int v]) ++ List.replicate (4 - (lg_sl ([.ref h0, .int x, .int b, .int v])).length) Slot.unset).toArray = ls at hl ⊢
  have hl : lv_has ls 4 [(0, .ref h0), (1, .int x), (2, .int b), (3, .int v)] := hl
  refine lv_aload_n hx hb dX1_put_0 rfl (lv_at hl 0 rfl) ?_
  refine va_get (D := D) (ci := 1) (v := .ref h1) (C := RX1) (T := TX1) (N := 6) hx hb hts hin0 hown hK hP 0 rfl rfl 0 (by decide) (hts (.fieldLink RX1 7 "ControlFileModel" "kept" "[I") (by decide +kernel)) (fun _ h9 => h9) rfl dX1_put_1 ?_
  refine lv_iload_n hx hb dX1_put_4 rfl (lv_at hl 1 rfl) ?_
  refine lv_aload_n hx hb dX1_put_5 rfl (lv_at hl 0 rfl) ?_
  refine va_get (D := D) (ci := 1) (v := .ref h1) (C := RX1) (T := TX1) (N := 6) hx hb hts hin0 hown hK hP 0 rfl rfl 0 (by decide) (hts (.fieldLink RX1 7 "ControlFileModel" "kept" "[I") (by decide +kernel)) (fun _ h9 => h9) rfl dX1_put_6 ?_
  refine lv_iload_n hx hb dX1_put_9 rfl (lv_at hl 1 rfl) ?_
  refine va_iald hx hb hK hP 1 0 rfl rfl hin dX1_put_10 ?_
  refine lv_iload_n hx hb dX1_put_11 rfl (lv_at hl 2 rfl) ?_
  refine lv_iconst (v := -1) hx hb dX1_put_12 (by decide) ?_
  refine lv_ixor hx hb dX1_put_13 ?_
  refine lv_iand hx hb dX1_put_14 ?_
  refine lv_iload_n hx hb dX1_put_15 rfl (lv_at hl 3 rfl) ?_
  refine lv_iload_n hx hb dX1_put_16 rfl (lv_at hl 2 rfl) ?_
  refine lv_iand hx hb dX1_put_17 ?_
  refine lv_ior hx hb dX1_put_18 ?_
  refine va_iast hx hb hK hP hD hS 1 0 rfl rfl hin dX1_put_19 (fun H locs hP hD hS => ?_)
  have hP : va_P D vwCl (cf_W 1 h0 h1 cA (upd k x.toNatClampNeg (((k x.toNatClampNeg) &&& (b ^^^ (-1))) ||| (v &&& b))) md tm al ln od) H := hP
  have hD : va_D A (cf_W 1 h0 h1 cA (upd k x.toNatClampNeg (((k x.toNatClampNeg) &&& (b ^^^ (-1))) ||| (v &&& b))) md tm al ln od) := hD
  exact cf_wrEndN hx hb hr hlocks hP hD hK hS (by simp only [mf_put, if_neg cf_n10, if_pos cf_p00, ↓reduceIte]) dX1_put_20
set_option maxHeartbeats 4000000 in
set_option maxRecDepth 100000 in
theorem m_write (l : Launch) (D : va_G) (z : Nat → Nat) (h0 h1 : Nat) (cA : ClassId) (k : Nat → Int32) (md : Int32) (tm al : Int64) (ln od : Int32) (sz : Nat) (x : Int32) (v : Int32) (hin : vp_in x 29) : Met l yX1_write wsX1_write ({ frames := 1, cells := 0, slots := 0, locals := 23 } : Room) (cf_wr [.ref h0, .int x, .int v] D (cf_W 1 h0 h1 cA k md tm al ln od) [(cA, .int)] sz z) (va_Qv (fun u => u = cf_W 1 h0 h1 cA (mf_write k x v) md tm al ln od) (cf_B D [(cA, .int)] (va_A (cf_W 1 h0 h1 cA k md tm al ln od) sz)) (va_A (cf_W 1 h0 h1 cA k md tm al ln od) sz)) 0 0 (va_A (cf_W 1 h0 h1 cA k md tm al ln od) sz) := by
  refine Met.ofW (cc := cX1_write) (maxL := 3) (ret := none) (by decide) rfl ?_
  intro p e s m args below meth c s₁ B hml hv
  obtain ⟨rfl, hsz, hP, hK, hD0, hZ⟩ := hv
  have hx := B.exec
  have hb := B.bytes
  have hr := B.returns
  have hts := atoms_spec (ws := wsX1_write) B.pre
  have hown : s.vm.findClass RX1 = some m.cls := findClass_of_methodNamed B.named
  have hlocks := B.notSynchronized
  have hin0 : ∀ w ∈ wsX10, w ∈ wsX1_write := by decide +kernel
  subst hsz
  have hD := hD0.self (sz := s.heap.size)
  generalize hAe : va_A (cf_W 1 h0 h1 cA k md tm al ln od) s.heap.size = A at hD hZ ⊢
  have hA : ∀ q : Nat, s.heap.size ≤ q → A q := fun q h => by rw [← hAe]; exact Or.inr h
  have hS : va_S A s.heap s.heap [] := va_S.rf
  have hl := lv_entry ([.ref h0, .int x, .int v]) (n := 3) (Nat.le_of_ble_eq_true rfl)
  rw [lg_entry_eq]
  generalize (lg_sl ([.ref h0, .int x, .int v]) ++ List.replicate (3 - (lg_sl ([.ref h0, .int x, .int v])).length) Slot.unset).toArray = ls at hl ⊢
  have hl : lv_has ls 3 [(0, .ref h0), (1, .int x), (2, .int v)] := hl
  refine lv_iload_n hx hb dX1_write_0 rfl (lv_at hl 1 rfl) ?_
  refine lv_bipush (v := 10) hx hb dX1_write_1 (by decide) ?_
  refine lv_icmp_ne (tgt := 29) hx hb dX1_write_3 (by decide) (fun c_1 => ?_) (fun c_1 => ?_)
  · skip
    refine lv_iload_n hx hb dX1_write_29 rfl (lv_at hl 1 rfl) ?_
    refine lv_bipush (v := 16) hx hb dX1_write_30 (by decide) ?_
    refine lv_icmp_ne (tgt := 56) hx hb dX1_write_32 (by decide) (fun c_2 => ?_) (fun c_2 => ?_)
    · skip
      refine lv_iload_n hx hb dX1_write_56 rfl (lv_at hl 1 rfl) ?_
      refine lv_bipush (v := 23) hx hb dX1_write_57 (by decide) ?_
      refine lv_icmp_ne (tgt := 73) hx hb dX1_write_59 (by decide) (fun c_3 => ?_) (fun c_3 => ?_)
      · skip
        refine lv_aload_n hx hb dX1_write_73 rfl (lv_at hl 0 rfl) ?_
        refine lv_iload_n hx hb dX1_write_74 rfl (lv_at hl 1 rfl) ?_
        refine lv_iconst (v := -1) hx hb dX1_write_75 (by decide) ?_
        refine lv_iload_n hx hb dX1_write_76 rfl (lv_at hl 2 rfl) ?_
        refine lv_iload_n hx hb dX1_write_77 rfl (lv_at hl 1 rfl) ?_
        refine cf_callS (As := [.int x]) (rest := [.int v, .int (-1), .int x, .ref h0]) ⟨hx, hb, hml, hown, hts⟩ (m_maskOf l D z x hin) (va_cwS 1 hts gX1_write_X1_maskOf rfl rfl rfl (by decide +kernel) ⟨Nat.le_of_ble_eq_true rfl, Nat.le_of_ble_eq_true rfl⟩) (hP.sub (ws' := []) [] rfl) (hK.sub (tys' := []) [] rfl) hZ hS rfl hl.1 rfl (Nat.le_of_ble_eq_true rfl) dX1_write_78 ⟨Nat.zero_le _, Nat.zero_le _⟩ ?_
        refine lv_iand hx hb dX1_write_81 ?_
        refine cf_wcallN (As := [.int x, .int (-1), .int (v &&& (mf_mask x))]) (rest := []) (wc := cf_W 1 h0 h1 cA k md tm al ln od) (wr := []) (wF := cf_W 1 h0 h1 cA (mf_put k x (-1) (v &&& (mf_mask x))) md tm al ln od) ⟨hx, hb, hml, hown, hts⟩ (m_put l D z h0 h1 cA k md tm al ln od s.heap.size x (-1) (v &&& (mf_mask x)) hin) (cwV 3 hts gX1_write_X1_put rfl rfl rfl (by decide +kernel) ⟨Nat.le_of_ble_eq_true rfl, Nat.le_of_ble_eq_true rfl⟩) hP hD hK hZ hS hA hP [0, 1] [] rfl rfl rfl rfl (by decide) (ci := 1) (q0 := 0) rfl rfl rfl rfl hl.1 rfl (Nat.le_of_ble_eq_true rfl) dX1_write_82 ⟨Nat.zero_le _, Nat.zero_le _⟩ (fun H locs hP hD hS => ?_)
        have hP : va_P D vwCl (cf_W 1 h0 h1 cA (mf_put k x (-1) (v &&& (mf_mask x))) md tm al ln od) H := hP
        have hD : va_D A (cf_W 1 h0 h1 cA (mf_put k x (-1) (v &&& (mf_mask x))) md tm al ln od) := hD
        exact cf_wrEndN hx hb hr hlocks hP hD hK hS (by simp only [mf_write, if_neg c_1, if_neg c_2, if_neg c_3, if_neg cf_n10, if_pos cf_p00, ↓reduceIte]) dX1_write_85
      · skip
        refine lv_aload_n hx hb dX1_write_62 rfl (lv_at hl 0 rfl) ?_
        refine lv_bipush (v := 24) hx hb dX1_write_63 (by decide) ?_
        refine lv_iconst (v := 4) hx hb dX1_write_65 (by decide) ?_
        refine lv_iload_n hx hb dX1_write_66 rfl (lv_at hl 2 rfl) ?_
        refine cf_wcallN (As := [.int 24, .int 4, .int v]) (rest := []) (wc := cf_W 1 h0 h1 cA k md tm al ln od) (wr := []) (wF := cf_W 1 h0 h1 cA (mf_put k 24 4 v) md tm al ln od) ⟨hx, hb, hml, hown, hts⟩ (m_put l D z h0 h1 cA k md tm al ln od s.heap.size 24 4 v (show vp_in (24 : Int32) 29 from vp_in_nI (n := 24) (by decide) (by decide))) (cwV 3 hts gX1_write_X1_put rfl rfl rfl (by decide +kernel) ⟨Nat.le_of_ble_eq_true rfl, Nat.le_of_ble_eq_true rfl⟩) hP hD hK hZ hS hA hP [0, 1] [] rfl rfl rfl rfl (by decide) (ci := 1) (q0 := 0) rfl rfl rfl rfl hl.1 rfl (Nat.le_of_ble_eq_true rfl) dX1_write_67 ⟨Nat.zero_le _, Nat.zero_le _⟩ (fun H locs hP hD hS => ?_)
        have hP : va_P D vwCl (cf_W 1 h0 h1 cA (mf_put k 24 4 v) md tm al ln od) H := hP
        have hD : va_D A (cf_W 1 h0 h1 cA (mf_put k 24 4 v) md tm al ln od) := hD
        refine lv_goto (tgt := 85) hx hb dX1_write_70 (by decide) ?_
        exact cf_wrEndN hx hb hr hlocks hP hD hK hS (by simp only [mf_write, if_neg c_1, if_neg c_2, if_pos c_3, if_neg cf_n10, if_pos cf_p00, ↓reduceIte]) dX1_write_85
    · skip
      refine lv_aload_n hx hb dX1_write_35 rfl (lv_at hl 0 rfl) ?_
      refine lv_bipush (v := 24) hx hb dX1_write_36 (by decide) ?_
      refine lv_aload_n hx hb dX1_write_38 rfl (lv_at hl 0 rfl) ?_
      refine va_get (D := D) (ci := 1) (v := .ref h1) (C := RX1) (T := TX1) (N := 6) hx hb hts hin0 hown hK hP 0 rfl rfl 0 (by decide) (hts (.fieldLink RX1 7 "ControlFileModel" "kept" "[I") (by decide +kernel)) (fun _ h9 => h9) rfl dX1_write_39 ?_
      refine lv_bipush (v := 20) hx hb dX1_write_42 (by decide) ?_
      refine cf_ld 20 hx hb hK hP 1 0 rfl rfl rfl (by decide) dX1_write_44 ?_
      refine lv_iconst (v := 4) hx hb dX1_write_45 (by decide) ?_
      refine lv_iand hx hb dX1_write_46 ?_
      refine lv_iload_n hx hb dX1_write_47 rfl (lv_at hl 2 rfl) ?_
      refine lv_iconst (v := 1) hx hb dX1_write_48 (by decide) ?_
      refine lv_ishl hx hb dX1_write_49 ?_
      refine cf_wcallN (As := [.int 24, .int ((k 20) &&& 4), .int (v <<< ((1 : Int32) &&& 31))]) (rest := []) (wc := cf_W 1 h0 h1 cA k md tm al ln od) (wr := []) (wF := cf_W 1 h0 h1 cA (mf_put k 24 ((k 20) &&& 4) (v <<< ((1 : Int32) &&& 31))) md tm al ln od) ⟨hx, hb, hml, hown, hts⟩ (m_put l D z h0 h1 cA k md tm al ln od s.heap.size 24 ((k 20) &&& 4) (v <<< ((1 : Int32) &&& 31)) (show vp_in (24 : Int32) 29 from vp_in_nI (n := 24) (by decide) (by decide))) (cwV 3 hts gX1_write_X1_put rfl rfl rfl (by decide +kernel) ⟨Nat.le_of_ble_eq_true rfl, Nat.le_of_ble_eq_true rfl⟩) hP hD hK hZ hS hA hP [0, 1] [] rfl rfl rfl rfl (by decide) (ci := 1) (q0 := 0) rfl rfl rfl rfl hl.1 rfl (Nat.le_of_ble_eq_true rfl) dX1_write_50 ⟨Nat.zero_le _, Nat.zero_le _⟩ (fun H locs hP hD hS => ?_)
      have hP : va_P D vwCl (cf_W 1 h0 h1 cA (mf_put k 24 ((k 20) &&& 4) (v <<< ((1 : Int32) &&& 31))) md tm al ln od) H := hP
      have hD : va_D A (cf_W 1 h0 h1 cA (mf_put k 24 ((k 20) &&& 4) (v <<< ((1 : Int32) &&& 31))) md tm al ln od) := hD
      refine lv_goto (tgt := 85) hx hb dX1_write_53 (by decide) ?_
      exact cf_wrEndN hx hb hr hlocks hP hD hK hS (by simp only [mf_write, if_neg c_1, if_pos c_2, if_neg cf_n10, if_pos cf_p00, ↓reduceIte]) dX1_write_85
  · skip
    refine lv_aload_n hx hb dX1_write_6 rfl (lv_at hl 0 rfl) ?_
    refine lv_bipush (v := 21) hx hb dX1_write_7 (by decide) ?_
    refine lv_aload_n hx hb dX1_write_9 rfl (lv_at hl 0 rfl) ?_
    refine va_get (D := D) (ci := 1) (v := .ref h1) (C := RX1) (T := TX1) (N := 6) hx hb hts hin0 hown hK hP 0 rfl rfl 0 (by decide) (hts (.fieldLink RX1 7 "ControlFileModel" "kept" "[I") (by decide +kernel)) (fun _ h9 => h9) rfl dX1_write_10 ?_
    refine lv_bipush (v := 20) hx hb dX1_write_13 (by decide) ?_
    refine cf_ld 20 hx hb hK hP 1 0 rfl rfl rfl (by decide) dX1_write_15 ?_
    refine lv_sipush (v := 1092) hx hb dX1_write_16 (by decide) ?_
    refine lv_iand hx hb dX1_write_19 ?_
    refine lv_iload_n hx hb dX1_write_20 rfl (lv_at hl 2 rfl) ?_
    refine lv_iconst (v := 1) hx hb dX1_write_21 (by decide) ?_
    refine lv_ishl hx hb dX1_write_22 ?_
    refine cf_wcallN (As := [.int 21, .int ((k 20) &&& 1092), .int (v <<< ((1 : Int32) &&& 31))]) (rest := []) (wc := cf_W 1 h0 h1 cA k md tm al ln od) (wr := []) (wF := cf_W 1 h0 h1 cA (mf_put k 21 ((k 20) &&& 1092) (v <<< ((1 : Int32) &&& 31))) md tm al ln od) ⟨hx, hb, hml, hown, hts⟩ (m_put l D z h0 h1 cA k md tm al ln od s.heap.size 21 ((k 20) &&& 1092) (v <<< ((1 : Int32) &&& 31)) (show vp_in (21 : Int32) 29 from vp_in_nI (n := 21) (by decide) (by decide))) (cwV 3 hts gX1_write_X1_put rfl rfl rfl (by decide +kernel) ⟨Nat.le_of_ble_eq_true rfl, Nat.le_of_ble_eq_true rfl⟩) hP hD hK hZ hS hA hP [0, 1] [] rfl rfl rfl rfl (by decide) (ci := 1) (q0 := 0) rfl rfl rfl rfl hl.1 rfl (Nat.le_of_ble_eq_true rfl) dX1_write_23 ⟨Nat.zero_le _, Nat.zero_le _⟩ (fun H locs hP hD hS => ?_)
    have hP : va_P D vwCl (cf_W 1 h0 h1 cA (mf_put k 21 ((k 20) &&& 1092) (v <<< ((1 : Int32) &&& 31))) md tm al ln od) H := hP
    have hD : va_D A (cf_W 1 h0 h1 cA (mf_put k 21 ((k 20) &&& 1092) (v <<< ((1 : Int32) &&& 31))) md tm al ln od) := hD
    refine lv_goto (tgt := 85) hx hb dX1_write_26 (by decide) ?_
    exact cf_wrEndN hx hb hr hlocks hP hD hK hS (by simp only [mf_write, if_pos c_1, if_neg cf_n10, if_pos cf_p00, ↓reduceIte]) dX1_write_85
set_option maxHeartbeats 4000000 in
set_option maxRecDepth 100000 in
theorem m_access (l : Launch) (D : va_G) (z : Nat → Nat) (h0 h1 : Nat) (cA : ClassId) (k : Nat → Int32) (md : Int32) (tm al : Int64) (ln od : Int32) (sz : Nat) (n : Int32) (kd : Int32) (v : Int32) : Met l yX1_access wsX1_access ({ frames := 2, cells := 0, slots := 0, locals := 46 } : Room) (cf_wr [.ref h0, .int n, .int kd, .int v] D (cf_W 1 h0 h1 cA k md tm al ln od) [(cA, .int)] sz z) (va_Qi (fun r u => r = mf_accR k md n kd ∧ u = cf_W 1 h0 h1 cA (mf_accK k md tm al ln n kd v) md tm al ln (mf_accO k md tm al ln od n kd)) (cf_B D [(cA, .int)] (va_A (cf_W 1 h0 h1 cA k md tm al ln od) sz)) (va_A (cf_W 1 h0 h1 cA k md tm al ln od) sz)) 0 0 (va_A (cf_W 1 h0 h1 cA k md tm al ln od) sz) := by
  refine Met.ofW (cc := cX1_access) (maxL := 7) (ret := (some .int)) (by decide) rfl ?_
  intro p e s m args below meth c s₁ B hml hv
  obtain ⟨rfl, hsz, hP, hK, hD0, hZ⟩ := hv
  have hx := B.exec
  have hb := B.bytes
  have hr := B.returns
  have hts := atoms_spec (ws := wsX1_access) B.pre
  have hown : s.vm.findClass RX1 = some m.cls := findClass_of_methodNamed B.named
  have hlocks := B.notSynchronized
  have hin0 : ∀ w ∈ wsX10, w ∈ wsX1_access := by decide +kernel
  subst hsz
  have hD := hD0.self (sz := s.heap.size)
  generalize hAe : va_A (cf_W 1 h0 h1 cA k md tm al ln od) s.heap.size = A at hD hZ ⊢
  have hA : ∀ q : Nat, s.heap.size ≤ q → A q := fun q h => by rw [← hAe]; exact Or.inr h
  have hS : va_S A s.heap s.heap [] := va_S.rf
  have hl := lv_entry ([.ref h0, .int n, .int kd, .int v]) (n := 7) (Nat.le_of_ble_eq_true rfl)
  rw [lg_entry_eq]
  generalize (lg_sl ([.ref h0, .int n, .int kd, .int v]) ++ List.replicate (7 - (lg_sl ([.ref h0, .int n, .int kd, .int v])).length) Slot.unset).toArray = ls at hl ⊢
  have hl : lv_has ls 7 [(0, .ref h0), (1, .int n), (2, .int kd), (3, .int v)] := hl
  refine lv_iload_n hx hb dX1_access_0 rfl (lv_at hl 2 rfl) ?_
  refine lv_if_lt (tgt := 9) hx hb dX1_access_1 (by decide) (fun c_1 => ?_) (fun c_1 => ?_)
  · skip
    refine lv_iconst (v := -1) hx hb dX1_access_9 (by decide) ?_
    exact cf_wrEnd hx hb hr hlocks hP hD hK hS (by simp only [mf_accR, mf_accO, mf_accK, mf_bit, mf_at, cf_wrt, if_pos c_1, if_neg cf_n10, if_pos cf_p00, ↓reduceIte]) (by simp only [mf_accR, mf_accO, mf_accK, mf_bit, mf_at, cf_wrt, if_pos c_1, if_neg cf_n10, if_pos cf_p00, ↓reduceIte]) dX1_access_10
  · skip
    refine lv_iload_n hx hb dX1_access_4 rfl (lv_at hl 2 rfl) ?_
    refine lv_iconst (v := 3) hx hb dX1_access_5 (by decide) ?_
    refine lv_icmp_le (tgt := 11) hx hb dX1_access_6 (by decide) (fun c_2 => ?_) (fun c_2 => ?_)
    · skip
      refine lv_iload_n hx hb dX1_access_11 rfl (lv_at hl 1 rfl) ?_
      refine cf_callS (As := [.int n]) (rest := []) ⟨hx, hb, hml, hown, hts⟩ (m_placeOf l D z n) (va_cwS 1 hts gX1_access_X1_placeOf rfl rfl rfl (by decide +kernel) ⟨Nat.le_of_ble_eq_true rfl, Nat.le_of_ble_eq_true rfl⟩) (hP.sub (ws' := []) [] rfl) (hK.sub (tys' := []) [] rfl) hZ hS rfl hl.1 rfl (Nat.le_of_ble_eq_true rfl) dX1_access_12 ⟨Nat.zero_le _, Nat.zero_le _⟩ ?_
      refine lv_istore (lv' := [(4, .int (mf_place n)), (0, .ref h0), (1, .int n), (2, .int kd), (3, .int v)]) hx hb dX1_access_15 hl (by decide) rfl (fun ls hl => ?_)
      refine lv_aload_n hx hb dX1_access_17 rfl (lv_at hl 1 rfl) ?_
      refine lv_iload hx hb dX1_access_18 (lv_at hl 0 rfl) ?_
      refine lv_iload_n hx hb dX1_access_20 rfl (lv_at hl 3 rfl) ?_
      refine lv_if_le (tgt := 28) hx hb dX1_access_21 (by decide) (fun c_3 => ?_) (fun c_3 => ?_)
      · skip
        refine lv_iconst (v := 0) hx hb dX1_access_28 (by decide) ?_
        refine cf_callV (As := [.int (mf_place n), .int 0]) (rest := []) ⟨hx, hb, hml, hown, hts⟩ (m_refusal l D z h0 h1 cA k md tm al ln od (mf_place n) 0) (cwV 2 hts gX1_access_X1_refusal rfl rfl rfl (by decide +kernel) ⟨Nat.le_of_ble_eq_true rfl, Nat.le_of_ble_eq_true rfl⟩) hP hK hZ hS (ci := 1) (q0 := 0) rfl rfl rfl rfl hl.1 rfl (Nat.le_of_ble_eq_true rfl) dX1_access_29 ⟨Nat.zero_le _, Nat.zero_le _⟩ ?_
        refine lv_istore (lv' := [(5, .int (mf_ref k md (mf_place n) 0)), (4, .int (mf_place n)), (0, .ref h0), (1, .int n), (2, .int kd), (3, .int v)]) hx hb dX1_access_32 hl (by decide) rfl (fun ls hl => ?_)
        refine lv_iload hx hb dX1_access_34 (lv_at hl 0 rfl) ?_
        refine lv_if_le (tgt := 42) hx hb dX1_access_36 (by decide) (fun c_4 => ?_) (fun c_4 => ?_)
        · skip
          refine lv_aload_n hx hb dX1_access_42 rfl (lv_at hl 2 rfl) ?_
          refine va_get (D := D) (ci := 1) (v := .int md) (C := RX1) (T := TX1) (N := 6) hx hb hts hin0 hown hK hP 0 rfl rfl 1 (by decide) (hts (.fieldLink RX1 16 "ControlFileModel" "mode" "I") (by decide +kernel)) (fun _ h9 => h9) rfl dX1_access_43 ?_
          refine lv_iconst (v := 3) hx hb dX1_access_46 (by decide) ?_
          refine lv_icmp_ne (tgt := 65) hx hb dX1_access_47 (by decide) (fun c_5 => ?_) (fun c_5 => ?_)
          · skip
            refine lv_iload hx hb dX1_access_65 (lv_at hl 1 rfl) ?_
            refine lv_istore (lv' := [(6, .int (mf_place n)), (5, .int (mf_ref k md (mf_place n) 0)), (4, .int (mf_place n)), (0, .ref h0), (1, .int n), (2, .int kd), (3, .int v)]) hx hb dX1_access_67 hl (by decide) rfl (fun ls hl => ?_)
            have hin1 : vp_in (mf_place n) 29 := mf_in1 c_4
            refine lv_aload_n hx hb dX1_access_69 rfl (lv_at hl 3 rfl) ?_
            refine lv_aload_n hx hb dX1_access_70 rfl (lv_at hl 3 rfl) ?_
            refine lv_iload hx hb dX1_access_71 (lv_at hl 0 rfl) ?_
            refine cf_callV (As := [.int (mf_place n)]) (rest := [.ref h0]) ⟨hx, hb, hml, hown, hts⟩ (m_tells l D z h0 h1 cA k md tm al ln od (mf_place n) hin1) (cwV 1 hts gX1_access_X1_tells rfl rfl rfl (by decide +kernel) ⟨Nat.le_of_ble_eq_true rfl, Nat.le_of_ble_eq_true rfl⟩) hP hK hZ hS (ci := 1) (q0 := 0) rfl rfl rfl rfl hl.1 rfl (Nat.le_of_ble_eq_true rfl) dX1_access_73 ⟨Nat.zero_le _, Nat.zero_le _⟩ ?_
            refine va_put (D := D) (ci := 1) (v := .int (mf_tell k tm al ln (mf_place n))) (ty := .int) (C := RX1) (T := TX1) (N := 6) hx hb hts hin0 tyX1 tyX1_ok nmX1 hown hK hP hD hS 0 rfl rfl 5 (by decide) (hts (.fieldLink RX1 33 "ControlFileModel" "old" "I") (by decide +kernel)) (fun _ h9 => h9) rfl (by decide +kernel) rfl rfl (Nat.le_of_ble_eq_true rfl) dX1_access_76 (fun H locs hP hD hS => ?_)
            have hP : va_P D vwCl (cf_W 1 h0 h1 cA k md tm al ln (mf_tell k tm al ln (mf_place n))) H := hP
            have hD : va_D A (cf_W 1 h0 h1 cA k md tm al ln (mf_tell k tm al ln (mf_place n))) := hD
            refine lv_iload_n hx hb dX1_access_79 rfl (lv_at hl 5 rfl) ?_
            refine lv_if_le (tgt := 120) hx hb dX1_access_80 (by decide) (fun c_6 => ?_) (fun c_6 => ?_)
            · skip
              refine lv_iconst (v := 0) hx hb dX1_access_120 (by decide) ?_
              exact cf_wrEnd hx hb hr hlocks hP hD hK hS (by simp only [mf_accR, mf_accO, mf_accK, mf_bit, mf_at, cf_wrt, if_neg c_1, if_pos c_2, if_pos c_3, if_pos c_4, if_neg c_5, if_pos c_6, if_neg cf_n10, if_pos cf_p00, ↓reduceIte]) (by simp only [mf_accR, mf_accO, mf_accK, mf_bit, mf_at, cf_wrt, if_neg c_1, if_pos c_2, if_pos c_3, if_pos c_4, if_neg c_5, if_pos c_6, if_neg cf_n10, if_pos cf_p00, ↓reduceIte]) dX1_access_121
            · skip
              exact absurd c_3 c_6
          · skip
            refine lv_iload hx hb dX1_access_50 (lv_at hl 1 rfl) ?_
            refine lv_bipush (v := 8) hx hb dX1_access_52 (by decide) ?_
            refine lv_icmp_gt (tgt := 65) hx hb dX1_access_54 (by decide) (fun c_7 => ?_) (fun c_7 => ?_)
            · skip
              refine lv_iload hx hb dX1_access_65 (lv_at hl 1 rfl) ?_
              refine lv_istore (lv' := [(6, .int (mf_place n)), (5, .int (mf_ref k md (mf_place n) 0)), (4, .int (mf_place n)), (0, .ref h0), (1, .int n), (2, .int kd), (3, .int v)]) hx hb dX1_access_67 hl (by decide) rfl (fun ls hl => ?_)
              have hin1 : vp_in (mf_place n) 29 := mf_in1 c_4
              refine lv_aload_n hx hb dX1_access_69 rfl (lv_at hl 3 rfl) ?_
              refine lv_aload_n hx hb dX1_access_70 rfl (lv_at hl 3 rfl) ?_
              refine lv_iload hx hb dX1_access_71 (lv_at hl 0 rfl) ?_
              refine cf_callV (As := [.int (mf_place n)]) (rest := [.ref h0]) ⟨hx, hb, hml, hown, hts⟩ (m_tells l D z h0 h1 cA k md tm al ln od (mf_place n) hin1) (cwV 1 hts gX1_access_X1_tells rfl rfl rfl (by decide +kernel) ⟨Nat.le_of_ble_eq_true rfl, Nat.le_of_ble_eq_true rfl⟩) hP hK hZ hS (ci := 1) (q0 := 0) rfl rfl rfl rfl hl.1 rfl (Nat.le_of_ble_eq_true rfl) dX1_access_73 ⟨Nat.zero_le _, Nat.zero_le _⟩ ?_
              refine va_put (D := D) (ci := 1) (v := .int (mf_tell k tm al ln (mf_place n))) (ty := .int) (C := RX1) (T := TX1) (N := 6) hx hb hts hin0 tyX1 tyX1_ok nmX1 hown hK hP hD hS 0 rfl rfl 5 (by decide) (hts (.fieldLink RX1 33 "ControlFileModel" "old" "I") (by decide +kernel)) (fun _ h9 => h9) rfl (by decide +kernel) rfl rfl (Nat.le_of_ble_eq_true rfl) dX1_access_76 (fun H locs hP hD hS => ?_)
              have hP : va_P D vwCl (cf_W 1 h0 h1 cA k md tm al ln (mf_tell k tm al ln (mf_place n))) H := hP
              have hD : va_D A (cf_W 1 h0 h1 cA k md tm al ln (mf_tell k tm al ln (mf_place n))) := hD
              refine lv_iload_n hx hb dX1_access_79 rfl (lv_at hl 5 rfl) ?_
              refine lv_if_le (tgt := 120) hx hb dX1_access_80 (by decide) (fun c_8 => ?_) (fun c_8 => ?_)
              · skip
                refine lv_iconst (v := 0) hx hb dX1_access_120 (by decide) ?_
                exact cf_wrEnd hx hb hr hlocks hP hD hK hS (by simp only [mf_accR, mf_accO, mf_accK, mf_bit, mf_at, cf_wrt, if_neg c_1, if_pos c_2, if_pos c_3, if_pos c_4, if_pos c_5, if_pos c_7, if_pos c_8, if_neg cf_n10, if_pos cf_p00, ↓reduceIte]) (by simp only [mf_accR, mf_accO, mf_accK, mf_bit, mf_at, cf_wrt, if_neg c_1, if_pos c_2, if_pos c_3, if_pos c_4, if_pos c_5, if_pos c_7, if_pos c_8, if_neg cf_n10, if_pos cf_p00, ↓reduceIte]) dX1_access_121
              · skip
                exact absurd c_3 c_8
            · skip
              refine lv_iload hx hb dX1_access_57 (lv_at hl 1 rfl) ?_
              refine lv_bipush (v := 9) hx hb dX1_access_59 (by decide) ?_
              refine lv_iadd hx hb dX1_access_61 ?_
              refine lv_goto (tgt := 67) hx hb dX1_access_62 (by decide) ?_
              refine lv_istore (lv' := [(6, .int ((mf_place n) + 9)), (5, .int (mf_ref k md (mf_place n) 0)), (4, .int (mf_place n)), (0, .ref h0), (1, .int n), (2, .int kd), (3, .int v)]) hx hb dX1_access_67 hl (by decide) rfl (fun ls hl => ?_)
              have hin1 : vp_in (mf_place n) 29 := mf_in1 c_4
              have hin2 : vp_in ((mf_place n) + 9) 29 := mf_in2 hin1 c_7
              refine lv_aload_n hx hb dX1_access_69 rfl (lv_at hl 3 rfl) ?_
              refine lv_aload_n hx hb dX1_access_70 rfl (lv_at hl 3 rfl) ?_
              refine lv_iload hx hb dX1_access_71 (lv_at hl 0 rfl) ?_
              refine cf_callV (As := [.int ((mf_place n) + 9)]) (rest := [.ref h0]) ⟨hx, hb, hml, hown, hts⟩ (m_tells l D z h0 h1 cA k md tm al ln od ((mf_place n) + 9) hin2) (cwV 1 hts gX1_access_X1_tells rfl rfl rfl (by decide +kernel) ⟨Nat.le_of_ble_eq_true rfl, Nat.le_of_ble_eq_true rfl⟩) hP hK hZ hS (ci := 1) (q0 := 0) rfl rfl rfl rfl hl.1 rfl (Nat.le_of_ble_eq_true rfl) dX1_access_73 ⟨Nat.zero_le _, Nat.zero_le _⟩ ?_
              refine va_put (D := D) (ci := 1) (v := .int (mf_tell k tm al ln ((mf_place n) + 9))) (ty := .int) (C := RX1) (T := TX1) (N := 6) hx hb hts hin0 tyX1 tyX1_ok nmX1 hown hK hP hD hS 0 rfl rfl 5 (by decide) (hts (.fieldLink RX1 33 "ControlFileModel" "old" "I") (by decide +kernel)) (fun _ h9 => h9) rfl (by decide +kernel) rfl rfl (Nat.le_of_ble_eq_true rfl) dX1_access_76 (fun H locs hP hD hS => ?_)
              have hP : va_P D vwCl (cf_W 1 h0 h1 cA k md tm al ln (mf_tell k tm al ln ((mf_place n) + 9))) H := hP
              have hD : va_D A (cf_W 1 h0 h1 cA k md tm al ln (mf_tell k tm al ln ((mf_place n) + 9))) := hD
              refine lv_iload_n hx hb dX1_access_79 rfl (lv_at hl 5 rfl) ?_
              refine lv_if_le (tgt := 120) hx hb dX1_access_80 (by decide) (fun c_9 => ?_) (fun c_9 => ?_)
              · skip
                refine lv_iconst (v := 0) hx hb dX1_access_120 (by decide) ?_
                exact cf_wrEnd hx hb hr hlocks hP hD hK hS (by simp only [mf_accR, mf_accO, mf_accK, mf_bit, mf_at, cf_wrt, if_neg c_1, if_pos c_2, if_pos c_3, if_pos c_4, if_pos c_5, if_neg c_7, if_pos c_9, if_neg cf_n10, if_pos cf_p00, ↓reduceIte]) (by simp only [mf_accR, mf_accO, mf_accK, mf_bit, mf_at, cf_wrt, if_neg c_1, if_pos c_2, if_pos c_3, if_pos c_4, if_pos c_5, if_neg c_7, if_pos c_9, if_neg cf_n10, if_pos cf_p00, ↓reduceIte]) dX1_access_121
              · skip
                exact absurd c_3 c_9
        · skip
          refine lv_iload hx hb dX1_access_39 (lv_at hl 0 rfl) ?_
          exact cf_wrEnd hx hb hr hlocks hP hD hK hS (by simp only [mf_accR, mf_accO, mf_accK, mf_bit, mf_at, cf_wrt, if_neg c_1, if_pos c_2, if_pos c_3, if_neg c_4, if_neg cf_n10, if_pos cf_p00, ↓reduceIte]) (by simp only [mf_accR, mf_accO, mf_accK, mf_bit, mf_at, cf_wrt, if_neg c_1, if_pos c_2, if_pos c_3, if_neg c_4, if_neg cf_n10, if_pos cf_p00, ↓reduceIte]) dX1_access_41
      · skip
        refine lv_iconst (v := 1) hx hb dX1_access_24 (by decide) ?_
        refine lv_goto (tgt := 29) hx hb dX1_access_25 (by decide) ?_
        refine cf_callV (As := [.int (mf_place n), .int 1]) (rest := []) ⟨hx, hb, hml, hown, hts⟩ (m_refusal l D z h0 h1 cA k md tm al ln od (mf_place n) 1) (cwV 2 hts gX1_access_X1_refusal rfl rfl rfl (by decide +kernel) ⟨Nat.le_of_ble_eq_true rfl, Nat.le_of_ble_eq_true rfl⟩) hP hK hZ hS (ci := 1) (q0 := 0) rfl rfl rfl rfl hl.1 rfl (Nat.le_of_ble_eq_true rfl) dX1_access_29 ⟨Nat.zero_le _, Nat.zero_le _⟩ ?_
        refine lv_istore (lv' := [(5, .int (mf_ref k md (mf_place n) 1)), (4, .int (mf_place n)), (0, .ref h0), (1, .int n), (2, .int kd), (3, .int v)]) hx hb dX1_access_32 hl (by decide) rfl (fun ls hl => ?_)
        refine lv_iload hx hb dX1_access_34 (lv_at hl 0 rfl) ?_
        refine lv_if_le (tgt := 42) hx hb dX1_access_36 (by decide) (fun c_10 => ?_) (fun c_10 => ?_)
        · skip
          refine lv_aload_n hx hb dX1_access_42 rfl (lv_at hl 2 rfl) ?_
          refine va_get (D := D) (ci := 1) (v := .int md) (C := RX1) (T := TX1) (N := 6) hx hb hts hin0 hown hK hP 0 rfl rfl 1 (by decide) (hts (.fieldLink RX1 16 "ControlFileModel" "mode" "I") (by decide +kernel)) (fun _ h9 => h9) rfl dX1_access_43 ?_
          refine lv_iconst (v := 3) hx hb dX1_access_46 (by decide) ?_
          refine lv_icmp_ne (tgt := 65) hx hb dX1_access_47 (by decide) (fun c_11 => ?_) (fun c_11 => ?_)
          · skip
            refine lv_iload hx hb dX1_access_65 (lv_at hl 1 rfl) ?_
            refine lv_istore (lv' := [(6, .int (mf_place n)), (5, .int (mf_ref k md (mf_place n) 1)), (4, .int (mf_place n)), (0, .ref h0), (1, .int n), (2, .int kd), (3, .int v)]) hx hb dX1_access_67 hl (by decide) rfl (fun ls hl => ?_)
            have hin1 : vp_in (mf_place n) 29 := mf_in1 c_10
            refine lv_aload_n hx hb dX1_access_69 rfl (lv_at hl 3 rfl) ?_
            refine lv_aload_n hx hb dX1_access_70 rfl (lv_at hl 3 rfl) ?_
            refine lv_iload hx hb dX1_access_71 (lv_at hl 0 rfl) ?_
            refine cf_callV (As := [.int (mf_place n)]) (rest := [.ref h0]) ⟨hx, hb, hml, hown, hts⟩ (m_tells l D z h0 h1 cA k md tm al ln od (mf_place n) hin1) (cwV 1 hts gX1_access_X1_tells rfl rfl rfl (by decide +kernel) ⟨Nat.le_of_ble_eq_true rfl, Nat.le_of_ble_eq_true rfl⟩) hP hK hZ hS (ci := 1) (q0 := 0) rfl rfl rfl rfl hl.1 rfl (Nat.le_of_ble_eq_true rfl) dX1_access_73 ⟨Nat.zero_le _, Nat.zero_le _⟩ ?_
            refine va_put (D := D) (ci := 1) (v := .int (mf_tell k tm al ln (mf_place n))) (ty := .int) (C := RX1) (T := TX1) (N := 6) hx hb hts hin0 tyX1 tyX1_ok nmX1 hown hK hP hD hS 0 rfl rfl 5 (by decide) (hts (.fieldLink RX1 33 "ControlFileModel" "old" "I") (by decide +kernel)) (fun _ h9 => h9) rfl (by decide +kernel) rfl rfl (Nat.le_of_ble_eq_true rfl) dX1_access_76 (fun H locs hP hD hS => ?_)
            have hP : va_P D vwCl (cf_W 1 h0 h1 cA k md tm al ln (mf_tell k tm al ln (mf_place n))) H := hP
            have hD : va_D A (cf_W 1 h0 h1 cA k md tm al ln (mf_tell k tm al ln (mf_place n))) := hD
            refine lv_iload_n hx hb dX1_access_79 rfl (lv_at hl 5 rfl) ?_
            refine lv_if_le (tgt := 120) hx hb dX1_access_80 (by decide) (fun c_12 => ?_) (fun c_12 => ?_)
            · skip
              exact absurd c_12 c_3
            · skip
              refine lv_aload_n hx hb dX1_access_83 rfl (lv_at hl 3 rfl) ?_
              refine lv_iload hx hb dX1_access_84 (lv_at hl 0 rfl) ?_
              refine lv_iload_n hx hb dX1_access_86 rfl (lv_at hl 5 rfl) ?_
              refine lv_iconst (v := 1) hx hb dX1_access_87 (by decide) ?_
              refine lv_icmp_ne (tgt := 95) hx hb dX1_access_88 (by decide) (fun c_13 => ?_) (fun c_13 => ?_)
              · skip
                refine lv_iload_n hx hb dX1_access_95 rfl (lv_at hl 5 rfl) ?_
                refine lv_iconst (v := 2) hx hb dX1_access_96 (by decide) ?_
                refine lv_icmp_ne (tgt := 109) hx hb dX1_access_97 (by decide) (fun c_14 => ?_) (fun c_14 => ?_)
                · skip
                  refine lv_aload_n hx hb dX1_access_109 rfl (lv_at hl 3 rfl) ?_
                  refine va_get (D := D) (ci := 1) (v := .int (mf_tell k tm al ln (mf_place n))) (C := RX1) (T := TX1) (N := 6) hx hb hts hin0 hown hK hP 0 rfl rfl 5 (by decide) (hts (.fieldLink RX1 33 "ControlFileModel" "old" "I") (by decide +kernel)) (fun _ h9 => h9) rfl dX1_access_110 ?_
                  refine lv_iload_n hx hb dX1_access_113 rfl (lv_at hl 6 rfl) ?_
                  refine lv_iconst (v := -1) hx hb dX1_access_114 (by decide) ?_
                  refine lv_ixor hx hb dX1_access_115 ?_
                  refine lv_iand hx hb dX1_access_116 ?_
                  refine cf_wcallN (As := [.int (mf_place n), .int ((mf_tell k tm al ln (mf_place n)) &&& (v ^^^ (-1)))]) (rest := []) (wc := cf_W 1 h0 h1 cA k md tm al ln (mf_tell k tm al ln (mf_place n))) (wr := []) (wF := cf_W 1 h0 h1 cA (mf_write k (mf_place n) ((mf_tell k tm al ln (mf_place n)) &&& (v ^^^ (-1)))) md tm al ln (mf_tell k tm al ln (mf_place n))) ⟨hx, hb, hml, hown, hts⟩ (m_write l D z h0 h1 cA k md tm al ln (mf_tell k tm al ln (mf_place n)) H.size (mf_place n) ((mf_tell k tm al ln (mf_place n)) &&& (v ^^^ (-1))) hin1) (cwV 2 hts gX1_access_X1_write rfl rfl rfl (by decide +kernel) ⟨Nat.le_of_ble_eq_true rfl, Nat.le_of_ble_eq_true rfl⟩) hP hD hK hZ hS hA hP [0, 1] [] rfl rfl rfl rfl (by decide) (ci := 1) (q0 := 0) rfl rfl rfl rfl hl.1 rfl (Nat.le_of_ble_eq_true rfl) dX1_access_117 ⟨Nat.zero_le _, Nat.zero_le _⟩ (fun H locs hP hD hS => ?_)
                  have hP : va_P D vwCl (cf_W 1 h0 h1 cA (mf_write k (mf_place n) ((mf_tell k tm al ln (mf_place n)) &&& (v ^^^ (-1)))) md tm al ln (mf_tell k tm al ln (mf_place n))) H := hP
                  have hD : va_D A (cf_W 1 h0 h1 cA (mf_write k (mf_place n) ((mf_tell k tm al ln (mf_place n)) &&& (v ^^^ (-1)))) md tm al ln (mf_tell k tm al ln (mf_place n))) := hD
                  refine lv_iconst (v := 0) hx hb dX1_access_120 (by decide) ?_
                  exact cf_wrEnd hx hb hr hlocks hP hD hK hS (by simp only [mf_accR, mf_accO, mf_accK, mf_bit, mf_at, cf_wrt, if_neg c_1, if_pos c_2, if_neg c_3, if_pos c_10, if_neg c_11, if_neg c_12, if_neg c_13, if_neg c_14, if_neg cf_n10, if_pos cf_p00, ↓reduceIte]) (by simp only [mf_accR, mf_accO, mf_accK, mf_bit, mf_at, cf_wrt, if_neg c_1, if_pos c_2, if_neg c_3, if_pos c_10, if_neg c_11, if_neg c_12, if_neg c_13, if_neg c_14, if_neg cf_n10, if_pos cf_p00, ↓reduceIte]) dX1_access_121
                · skip
                  refine lv_aload_n hx hb dX1_access_100 rfl (lv_at hl 3 rfl) ?_
                  refine va_get (D := D) (ci := 1) (v := .int (mf_tell k tm al ln (mf_place n))) (C := RX1) (T := TX1) (N := 6) hx hb hts hin0 hown hK hP 0 rfl rfl 5 (by decide) (hts (.fieldLink RX1 33 "ControlFileModel" "old" "I") (by decide +kernel)) (fun _ h9 => h9) rfl dX1_access_101 ?_
                  refine lv_iload_n hx hb dX1_access_104 rfl (lv_at hl 6 rfl) ?_
                  refine lv_ior hx hb dX1_access_105 ?_
                  refine lv_goto (tgt := 117) hx hb dX1_access_106 (by decide) ?_
                  refine cf_wcallN (As := [.int (mf_place n), .int ((mf_tell k tm al ln (mf_place n)) ||| v)]) (rest := []) (wc := cf_W 1 h0 h1 cA k md tm al ln (mf_tell k tm al ln (mf_place n))) (wr := []) (wF := cf_W 1 h0 h1 cA (mf_write k (mf_place n) ((mf_tell k tm al ln (mf_place n)) ||| v)) md tm al ln (mf_tell k tm al ln (mf_place n))) ⟨hx, hb, hml, hown, hts⟩ (m_write l D z h0 h1 cA k md tm al ln (mf_tell k tm al ln (mf_place n)) H.size (mf_place n) ((mf_tell k tm al ln (mf_place n)) ||| v) hin1) (cwV 2 hts gX1_access_X1_write rfl rfl rfl (by decide +kernel) ⟨Nat.le_of_ble_eq_true rfl, Nat.le_of_ble_eq_true rfl⟩) hP hD hK hZ hS hA hP [0, 1] [] rfl rfl rfl rfl (by decide) (ci := 1) (q0 := 0) rfl rfl rfl rfl hl.1 rfl (Nat.le_of_ble_eq_true rfl) dX1_access_117 ⟨Nat.zero_le _, Nat.zero_le _⟩ (fun H locs hP hD hS => ?_)
                  have hP : va_P D vwCl (cf_W 1 h0 h1 cA (mf_write k (mf_place n) ((mf_tell k tm al ln (mf_place n)) ||| v)) md tm al ln (mf_tell k tm al ln (mf_place n))) H := hP
                  have hD : va_D A (cf_W 1 h0 h1 cA (mf_write k (mf_place n) ((mf_tell k tm al ln (mf_place n)) ||| v)) md tm al ln (mf_tell k tm al ln (mf_place n))) := hD
                  refine lv_iconst (v := 0) hx hb dX1_access_120 (by decide) ?_
                  exact cf_wrEnd hx hb hr hlocks hP hD hK hS (by simp only [mf_accR, mf_accO, mf_accK, mf_bit, mf_at, cf_wrt, if_neg c_1, if_pos c_2, if_neg c_3, if_pos c_10, if_neg c_11, if_neg c_12, if_neg c_13, if_pos c_14, if_neg cf_n10, if_pos cf_p00, ↓reduceIte]) (by simp only [mf_accR, mf_accO, mf_accK, mf_bit, mf_at, cf_wrt, if_neg c_1, if_pos c_2, if_neg c_3, if_pos c_10, if_neg c_11, if_neg c_12, if_neg c_13, if_pos c_14, if_neg cf_n10, if_pos cf_p00, ↓reduceIte]) dX1_access_121
              · skip
                refine lv_iload_n hx hb dX1_access_91 rfl (lv_at hl 6 rfl) ?_
                refine lv_goto (tgt := 117) hx hb dX1_access_92 (by decide) ?_
                refine cf_wcallN (As := [.int (mf_place n), .int v]) (rest := []) (wc := cf_W 1 h0 h1 cA k md tm al ln (mf_tell k tm al ln (mf_place n))) (wr := []) (wF := cf_W 1 h0 h1 cA (mf_write k (mf_place n) v) md tm al ln (mf_tell k tm al ln (mf_place n))) ⟨hx, hb, hml, hown, hts⟩ (m_write l D z h0 h1 cA k md tm al ln (mf_tell k tm al ln (mf_place n)) H.size (mf_place n) v hin1) (cwV 2 hts gX1_access_X1_write rfl rfl rfl (by decide +kernel) ⟨Nat.le_of_ble_eq_true rfl, Nat.le_of_ble_eq_true rfl⟩) hP hD hK hZ hS hA hP [0, 1] [] rfl rfl rfl rfl (by decide) (ci := 1) (q0 := 0) rfl rfl rfl rfl hl.1 rfl (Nat.le_of_ble_eq_true rfl) dX1_access_117 ⟨Nat.zero_le _, Nat.zero_le _⟩ (fun H locs hP hD hS => ?_)
                have hP : va_P D vwCl (cf_W 1 h0 h1 cA (mf_write k (mf_place n) v) md tm al ln (mf_tell k tm al ln (mf_place n))) H := hP
                have hD : va_D A (cf_W 1 h0 h1 cA (mf_write k (mf_place n) v) md tm al ln (mf_tell k tm al ln (mf_place n))) := hD
                refine lv_iconst (v := 0) hx hb dX1_access_120 (by decide) ?_
                exact cf_wrEnd hx hb hr hlocks hP hD hK hS (by simp only [mf_accR, mf_accO, mf_accK, mf_bit, mf_at, cf_wrt, if_neg c_1, if_pos c_2, if_neg c_3, if_pos c_10, if_neg c_11, if_neg c_12, if_pos c_13, if_neg cf_n10, if_pos cf_p00, ↓reduceIte]) (by simp only [mf_accR, mf_accO, mf_accK, mf_bit, mf_at, cf_wrt, if_neg c_1, if_pos c_2, if_neg c_3, if_pos c_10, if_neg c_11, if_neg c_12, if_pos c_13, if_neg cf_n10, if_pos cf_p00, ↓reduceIte]) dX1_access_121
          · skip
            refine lv_iload hx hb dX1_access_50 (lv_at hl 1 rfl) ?_
            refine lv_bipush (v := 8) hx hb dX1_access_52 (by decide) ?_
            refine lv_icmp_gt (tgt := 65) hx hb dX1_access_54 (by decide) (fun c_15 => ?_) (fun c_15 => ?_)
            · skip
              refine lv_iload hx hb dX1_access_65 (lv_at hl 1 rfl) ?_
              refine lv_istore (lv' := [(6, .int (mf_place n)), (5, .int (mf_ref k md (mf_place n) 1)), (4, .int (mf_place n)), (0, .ref h0), (1, .int n), (2, .int kd), (3, .int v)]) hx hb dX1_access_67 hl (by decide) rfl (fun ls hl => ?_)
              have hin1 : vp_in (mf_place n) 29 := mf_in1 c_10
              refine lv_aload_n hx hb dX1_access_69 rfl (lv_at hl 3 rfl) ?_
              refine lv_aload_n hx hb dX1_access_70 rfl (lv_at hl 3 rfl) ?_
              refine lv_iload hx hb dX1_access_71 (lv_at hl 0 rfl) ?_
              refine cf_callV (As := [.int (mf_place n)]) (rest := [.ref h0]) ⟨hx, hb, hml, hown, hts⟩ (m_tells l D z h0 h1 cA k md tm al ln od (mf_place n) hin1) (cwV 1 hts gX1_access_X1_tells rfl rfl rfl (by decide +kernel) ⟨Nat.le_of_ble_eq_true rfl, Nat.le_of_ble_eq_true rfl⟩) hP hK hZ hS (ci := 1) (q0 := 0) rfl rfl rfl rfl hl.1 rfl (Nat.le_of_ble_eq_true rfl) dX1_access_73 ⟨Nat.zero_le _, Nat.zero_le _⟩ ?_
              refine va_put (D := D) (ci := 1) (v := .int (mf_tell k tm al ln (mf_place n))) (ty := .int) (C := RX1) (T := TX1) (N := 6) hx hb hts hin0 tyX1 tyX1_ok nmX1 hown hK hP hD hS 0 rfl rfl 5 (by decide) (hts (.fieldLink RX1 33 "ControlFileModel" "old" "I") (by decide +kernel)) (fun _ h9 => h9) rfl (by decide +kernel) rfl rfl (Nat.le_of_ble_eq_true rfl) dX1_access_76 (fun H locs hP hD hS => ?_)
              have hP : va_P D vwCl (cf_W 1 h0 h1 cA k md tm al ln (mf_tell k tm al ln (mf_place n))) H := hP
              have hD : va_D A (cf_W 1 h0 h1 cA k md tm al ln (mf_tell k tm al ln (mf_place n))) := hD
              refine lv_iload_n hx hb dX1_access_79 rfl (lv_at hl 5 rfl) ?_
              refine lv_if_le (tgt := 120) hx hb dX1_access_80 (by decide) (fun c_16 => ?_) (fun c_16 => ?_)
              · skip
                exact absurd c_16 c_3
              · skip
                refine lv_aload_n hx hb dX1_access_83 rfl (lv_at hl 3 rfl) ?_
                refine lv_iload hx hb dX1_access_84 (lv_at hl 0 rfl) ?_
                refine lv_iload_n hx hb dX1_access_86 rfl (lv_at hl 5 rfl) ?_
                refine lv_iconst (v := 1) hx hb dX1_access_87 (by decide) ?_
                refine lv_icmp_ne (tgt := 95) hx hb dX1_access_88 (by decide) (fun c_17 => ?_) (fun c_17 => ?_)
                · skip
                  refine lv_iload_n hx hb dX1_access_95 rfl (lv_at hl 5 rfl) ?_
                  refine lv_iconst (v := 2) hx hb dX1_access_96 (by decide) ?_
                  refine lv_icmp_ne (tgt := 109) hx hb dX1_access_97 (by decide) (fun c_18 => ?_) (fun c_18 => ?_)
                  · skip
                    refine lv_aload_n hx hb dX1_access_109 rfl (lv_at hl 3 rfl) ?_
                    refine va_get (D := D) (ci := 1) (v := .int (mf_tell k tm al ln (mf_place n))) (C := RX1) (T := TX1) (N := 6) hx hb hts hin0 hown hK hP 0 rfl rfl 5 (by decide) (hts (.fieldLink RX1 33 "ControlFileModel" "old" "I") (by decide +kernel)) (fun _ h9 => h9) rfl dX1_access_110 ?_
                    refine lv_iload_n hx hb dX1_access_113 rfl (lv_at hl 6 rfl) ?_
                    refine lv_iconst (v := -1) hx hb dX1_access_114 (by decide) ?_
                    refine lv_ixor hx hb dX1_access_115 ?_
                    refine lv_iand hx hb dX1_access_116 ?_
                    refine cf_wcallN (As := [.int (mf_place n), .int ((mf_tell k tm al ln (mf_place n)) &&& (v ^^^ (-1)))]) (rest := []) (wc := cf_W 1 h0 h1 cA k md tm al ln (mf_tell k tm al ln (mf_place n))) (wr := []) (wF := cf_W 1 h0 h1 cA (mf_write k (mf_place n) ((mf_tell k tm al ln (mf_place n)) &&& (v ^^^ (-1)))) md tm al ln (mf_tell k tm al ln (mf_place n))) ⟨hx, hb, hml, hown, hts⟩ (m_write l D z h0 h1 cA k md tm al ln (mf_tell k tm al ln (mf_place n)) H.size (mf_place n) ((mf_tell k tm al ln (mf_place n)) &&& (v ^^^ (-1))) hin1) (cwV 2 hts gX1_access_X1_write rfl rfl rfl (by decide +kernel) ⟨Nat.le_of_ble_eq_true rfl, Nat.le_of_ble_eq_true rfl⟩) hP hD hK hZ hS hA hP [0, 1] [] rfl rfl rfl rfl (by decide) (ci := 1) (q0 := 0) rfl rfl rfl rfl hl.1 rfl (Nat.le_of_ble_eq_true rfl) dX1_access_117 ⟨Nat.zero_le _, Nat.zero_le _⟩ (fun H locs hP hD hS => ?_)
                    have hP : va_P D vwCl (cf_W 1 h0 h1 cA (mf_write k (mf_place n) ((mf_tell k tm al ln (mf_place n)) &&& (v ^^^ (-1)))) md tm al ln (mf_tell k tm al ln (mf_place n))) H := hP
                    have hD : va_D A (cf_W 1 h0 h1 cA (mf_write k (mf_place n) ((mf_tell k tm al ln (mf_place n)) &&& (v ^^^ (-1)))) md tm al ln (mf_tell k tm al ln (mf_place n))) := hD
                    refine lv_iconst (v := 0) hx hb dX1_access_120 (by decide) ?_
                    exact cf_wrEnd hx hb hr hlocks hP hD hK hS (by simp only [mf_accR, mf_accO, mf_accK, mf_bit, mf_at, cf_wrt, if_neg c_1, if_pos c_2, if_neg c_3, if_pos c_10, if_pos c_11, if_pos c_15, if_neg c_16, if_neg c_17, if_neg c_18, if_neg cf_n10, if_pos cf_p00, ↓reduceIte]) (by simp only [mf_accR, mf_accO, mf_accK, mf_bit, mf_at, cf_wrt, if_neg c_1, if_pos c_2, if_neg c_3, if_pos c_10, if_pos c_11, if_pos c_15, if_neg c_16, if_neg c_17, if_neg c_18, if_neg cf_n10, if_pos cf_p00, ↓reduceIte]) dX1_access_121
                  · skip
                    refine lv_aload_n hx hb dX1_access_100 rfl (lv_at hl 3 rfl) ?_
                    refine va_get (D := D) (ci := 1) (v := .int (mf_tell k tm al ln (mf_place n))) (C := RX1) (T := TX1) (N := 6) hx hb hts hin0 hown hK hP 0 rfl rfl 5 (by decide) (hts (.fieldLink RX1 33 "ControlFileModel" "old" "I") (by decide +kernel)) (fun _ h9 => h9) rfl dX1_access_101 ?_
                    refine lv_iload_n hx hb dX1_access_104 rfl (lv_at hl 6 rfl) ?_
                    refine lv_ior hx hb dX1_access_105 ?_
                    refine lv_goto (tgt := 117) hx hb dX1_access_106 (by decide) ?_
                    refine cf_wcallN (As := [.int (mf_place n), .int ((mf_tell k tm al ln (mf_place n)) ||| v)]) (rest := []) (wc := cf_W 1 h0 h1 cA k md tm al ln (mf_tell k tm al ln (mf_place n))) (wr := []) (wF := cf_W 1 h0 h1 cA (mf_write k (mf_place n) ((mf_tell k tm al ln (mf_place n)) ||| v)) md tm al ln (mf_tell k tm al ln (mf_place n))) ⟨hx, hb, hml, hown, hts⟩ (m_write l D z h0 h1 cA k md tm al ln (mf_tell k tm al ln (mf_place n)) H.size (mf_place n) ((mf_tell k tm al ln (mf_place n)) ||| v) hin1) (cwV 2 hts gX1_access_X1_write rfl rfl rfl (by decide +kernel) ⟨Nat.le_of_ble_eq_true rfl, Nat.le_of_ble_eq_true rfl⟩) hP hD hK hZ hS hA hP [0, 1] [] rfl rfl rfl rfl (by decide) (ci := 1) (q0 := 0) rfl rfl rfl rfl hl.1 rfl (Nat.le_of_ble_eq_true rfl) dX1_access_117 ⟨Nat.zero_le _, Nat.zero_le _⟩ (fun H locs hP hD hS => ?_)
                    have hP : va_P D vwCl (cf_W 1 h0 h1 cA (mf_write k (mf_place n) ((mf_tell k tm al ln (mf_place n)) ||| v)) md tm al ln (mf_tell k tm al ln (mf_place n))) H := hP
                    have hD : va_D A (cf_W 1 h0 h1 cA (mf_write k (mf_place n) ((mf_tell k tm al ln (mf_place n)) ||| v)) md tm al ln (mf_tell k tm al ln (mf_place n))) := hD
                    refine lv_iconst (v := 0) hx hb dX1_access_120 (by decide) ?_
                    exact cf_wrEnd hx hb hr hlocks hP hD hK hS (by simp only [mf_accR, mf_accO, mf_accK, mf_bit, mf_at, cf_wrt, if_neg c_1, if_pos c_2, if_neg c_3, if_pos c_10, if_pos c_11, if_pos c_15, if_neg c_16, if_neg c_17, if_pos c_18, if_neg cf_n10, if_pos cf_p00, ↓reduceIte]) (by simp only [mf_accR, mf_accO, mf_accK, mf_bit, mf_at, cf_wrt, if_neg c_1, if_pos c_2, if_neg c_3, if_pos c_10, if_pos c_11, if_pos c_15, if_neg c_16, if_neg c_17, if_pos c_18, if_neg cf_n10, if_pos cf_p00, ↓reduceIte]) dX1_access_121
                · skip
                  refine lv_iload_n hx hb dX1_access_91 rfl (lv_at hl 6 rfl) ?_
                  refine lv_goto (tgt := 117) hx hb dX1_access_92 (by decide) ?_
                  refine cf_wcallN (As := [.int (mf_place n), .int v]) (rest := []) (wc := cf_W 1 h0 h1 cA k md tm al ln (mf_tell k tm al ln (mf_place n))) (wr := []) (wF := cf_W 1 h0 h1 cA (mf_write k (mf_place n) v) md tm al ln (mf_tell k tm al ln (mf_place n))) ⟨hx, hb, hml, hown, hts⟩ (m_write l D z h0 h1 cA k md tm al ln (mf_tell k tm al ln (mf_place n)) H.size (mf_place n) v hin1) (cwV 2 hts gX1_access_X1_write rfl rfl rfl (by decide +kernel) ⟨Nat.le_of_ble_eq_true rfl, Nat.le_of_ble_eq_true rfl⟩) hP hD hK hZ hS hA hP [0, 1] [] rfl rfl rfl rfl (by decide) (ci := 1) (q0 := 0) rfl rfl rfl rfl hl.1 rfl (Nat.le_of_ble_eq_true rfl) dX1_access_117 ⟨Nat.zero_le _, Nat.zero_le _⟩ (fun H locs hP hD hS => ?_)
                  have hP : va_P D vwCl (cf_W 1 h0 h1 cA (mf_write k (mf_place n) v) md tm al ln (mf_tell k tm al ln (mf_place n))) H := hP
                  have hD : va_D A (cf_W 1 h0 h1 cA (mf_write k (mf_place n) v) md tm al ln (mf_tell k tm al ln (mf_place n))) := hD
                  refine lv_iconst (v := 0) hx hb dX1_access_120 (by decide) ?_
                  exact cf_wrEnd hx hb hr hlocks hP hD hK hS (by simp only [mf_accR, mf_accO, mf_accK, mf_bit, mf_at, cf_wrt, if_neg c_1, if_pos c_2, if_neg c_3, if_pos c_10, if_pos c_11, if_pos c_15, if_neg c_16, if_pos c_17, if_neg cf_n10, if_pos cf_p00, ↓reduceIte]) (by simp only [mf_accR, mf_accO, mf_accK, mf_bit, mf_at, cf_wrt, if_neg c_1, if_pos c_2, if_neg c_3, if_pos c_10, if_pos c_11, if_pos c_15, if_neg c_16, if_pos c_17, if_neg cf_n10, if_pos cf_p00, ↓reduceIte]) dX1_access_121
            · skip
              refine lv_iload hx hb dX1_access_57 (lv_at hl 1 rfl) ?_
              refine lv_bipush (v := 9) hx hb dX1_access_59 (by decide) ?_
              refine lv_iadd hx hb dX1_access_61 ?_
              refine lv_goto (tgt := 67) hx hb dX1_access_62 (by decide) ?_
              refine lv_istore (lv' := [(6, .int ((mf_place n) + 9)), (5, .int (mf_ref k md (mf_place n) 1)), (4, .int (mf_place n)), (0, .ref h0), (1, .int n), (2, .int kd), (3, .int v)]) hx hb dX1_access_67 hl (by decide) rfl (fun ls hl => ?_)
              have hin1 : vp_in (mf_place n) 29 := mf_in1 c_10
              have hin2 : vp_in ((mf_place n) + 9) 29 := mf_in2 hin1 c_15
              refine lv_aload_n hx hb dX1_access_69 rfl (lv_at hl 3 rfl) ?_
              refine lv_aload_n hx hb dX1_access_70 rfl (lv_at hl 3 rfl) ?_
              refine lv_iload hx hb dX1_access_71 (lv_at hl 0 rfl) ?_
              refine cf_callV (As := [.int ((mf_place n) + 9)]) (rest := [.ref h0]) ⟨hx, hb, hml, hown, hts⟩ (m_tells l D z h0 h1 cA k md tm al ln od ((mf_place n) + 9) hin2) (cwV 1 hts gX1_access_X1_tells rfl rfl rfl (by decide +kernel) ⟨Nat.le_of_ble_eq_true rfl, Nat.le_of_ble_eq_true rfl⟩) hP hK hZ hS (ci := 1) (q0 := 0) rfl rfl rfl rfl hl.1 rfl (Nat.le_of_ble_eq_true rfl) dX1_access_73 ⟨Nat.zero_le _, Nat.zero_le _⟩ ?_
              refine va_put (D := D) (ci := 1) (v := .int (mf_tell k tm al ln ((mf_place n) + 9))) (ty := .int) (C := RX1) (T := TX1) (N := 6) hx hb hts hin0 tyX1 tyX1_ok nmX1 hown hK hP hD hS 0 rfl rfl 5 (by decide) (hts (.fieldLink RX1 33 "ControlFileModel" "old" "I") (by decide +kernel)) (fun _ h9 => h9) rfl (by decide +kernel) rfl rfl (Nat.le_of_ble_eq_true rfl) dX1_access_76 (fun H locs hP hD hS => ?_)
              have hP : va_P D vwCl (cf_W 1 h0 h1 cA k md tm al ln (mf_tell k tm al ln ((mf_place n) + 9))) H := hP
              have hD : va_D A (cf_W 1 h0 h1 cA k md tm al ln (mf_tell k tm al ln ((mf_place n) + 9))) := hD
              refine lv_iload_n hx hb dX1_access_79 rfl (lv_at hl 5 rfl) ?_
              refine lv_if_le (tgt := 120) hx hb dX1_access_80 (by decide) (fun c_19 => ?_) (fun c_19 => ?_)
              · skip
                exact absurd c_19 c_3
              · skip
                refine lv_aload_n hx hb dX1_access_83 rfl (lv_at hl 3 rfl) ?_
                refine lv_iload hx hb dX1_access_84 (lv_at hl 0 rfl) ?_
                refine lv_iload_n hx hb dX1_access_86 rfl (lv_at hl 5 rfl) ?_
                refine lv_iconst (v := 1) hx hb dX1_access_87 (by decide) ?_
                refine lv_icmp_ne (tgt := 95) hx hb dX1_access_88 (by decide) (fun c_20 => ?_) (fun c_20 => ?_)
                · skip
                  refine lv_iload_n hx hb dX1_access_95 rfl (lv_at hl 5 rfl) ?_
                  refine lv_iconst (v := 2) hx hb dX1_access_96 (by decide) ?_
                  refine lv_icmp_ne (tgt := 109) hx hb dX1_access_97 (by decide) (fun c_21 => ?_) (fun c_21 => ?_)
                  · skip
                    refine lv_aload_n hx hb dX1_access_109 rfl (lv_at hl 3 rfl) ?_
                    refine va_get (D := D) (ci := 1) (v := .int (mf_tell k tm al ln ((mf_place n) + 9))) (C := RX1) (T := TX1) (N := 6) hx hb hts hin0 hown hK hP 0 rfl rfl 5 (by decide) (hts (.fieldLink RX1 33 "ControlFileModel" "old" "I") (by decide +kernel)) (fun _ h9 => h9) rfl dX1_access_110 ?_
                    refine lv_iload_n hx hb dX1_access_113 rfl (lv_at hl 6 rfl) ?_
                    refine lv_iconst (v := -1) hx hb dX1_access_114 (by decide) ?_
                    refine lv_ixor hx hb dX1_access_115 ?_
                    refine lv_iand hx hb dX1_access_116 ?_
                    refine cf_wcallN (As := [.int ((mf_place n) + 9), .int ((mf_tell k tm al ln ((mf_place n) + 9)) &&& (v ^^^ (-1)))]) (rest := []) (wc := cf_W 1 h0 h1 cA k md tm al ln (mf_tell k tm al ln ((mf_place n) + 9))) (wr := []) (wF := cf_W 1 h0 h1 cA (mf_write k ((mf_place n) + 9) ((mf_tell k tm al ln ((mf_place n) + 9)) &&& (v ^^^ (-1)))) md tm al ln (mf_tell k tm al ln ((mf_place n) + 9))) ⟨hx, hb, hml, hown, hts⟩ (m_write l D z h0 h1 cA k md tm al ln (mf_tell k tm al ln ((mf_place n) + 9)) H.size ((mf_place n) + 9) ((mf_tell k tm al ln ((mf_place n) + 9)) &&& (v ^^^ (-1))) hin2) (cwV 2 hts gX1_access_X1_write rfl rfl rfl (by decide +kernel) ⟨Nat.le_of_ble_eq_true rfl, Nat.le_of_ble_eq_true rfl⟩) hP hD hK hZ hS hA hP [0, 1] [] rfl rfl rfl rfl (by decide) (ci := 1) (q0 := 0) rfl rfl rfl rfl hl.1 rfl (Nat.le_of_ble_eq_true rfl) dX1_access_117 ⟨Nat.zero_le _, Nat.zero_le _⟩ (fun H locs hP hD hS => ?_)
                    have hP : va_P D vwCl (cf_W 1 h0 h1 cA (mf_write k ((mf_place n) + 9) ((mf_tell k tm al ln ((mf_place n) + 9)) &&& (v ^^^ (-1)))) md tm al ln (mf_tell k tm al ln ((mf_place n) + 9))) H := hP
                    have hD : va_D A (cf_W 1 h0 h1 cA (mf_write k ((mf_place n) + 9) ((mf_tell k tm al ln ((mf_place n) + 9)) &&& (v ^^^ (-1)))) md tm al ln (mf_tell k tm al ln ((mf_place n) + 9))) := hD
                    refine lv_iconst (v := 0) hx hb dX1_access_120 (by decide) ?_
                    exact cf_wrEnd hx hb hr hlocks hP hD hK hS (by simp only [mf_accR, mf_accO, mf_accK, mf_bit, mf_at, cf_wrt, if_neg c_1, if_pos c_2, if_neg c_3, if_pos c_10, if_pos c_11, if_neg c_15, if_neg c_19, if_neg c_20, if_neg c_21, if_neg cf_n10, if_pos cf_p00, ↓reduceIte]) (by simp only [mf_accR, mf_accO, mf_accK, mf_bit, mf_at, cf_wrt, if_neg c_1, if_pos c_2, if_neg c_3, if_pos c_10, if_pos c_11, if_neg c_15, if_neg c_19, if_neg c_20, if_neg c_21, if_neg cf_n10, if_pos cf_p00, ↓reduceIte]) dX1_access_121
                  · skip
                    refine lv_aload_n hx hb dX1_access_100 rfl (lv_at hl 3 rfl) ?_
                    refine va_get (D := D) (ci := 1) (v := .int (mf_tell k tm al ln ((mf_place n) + 9))) (C := RX1) (T := TX1) (N := 6) hx hb hts hin0 hown hK hP 0 rfl rfl 5 (by decide) (hts (.fieldLink RX1 33 "ControlFileModel" "old" "I") (by decide +kernel)) (fun _ h9 => h9) rfl dX1_access_101 ?_
                    refine lv_iload_n hx hb dX1_access_104 rfl (lv_at hl 6 rfl) ?_
                    refine lv_ior hx hb dX1_access_105 ?_
                    refine lv_goto (tgt := 117) hx hb dX1_access_106 (by decide) ?_
                    refine cf_wcallN (As := [.int ((mf_place n) + 9), .int ((mf_tell k tm al ln ((mf_place n) + 9)) ||| v)]) (rest := []) (wc := cf_W 1 h0 h1 cA k md tm al ln (mf_tell k tm al ln ((mf_place n) + 9))) (wr := []) (wF := cf_W 1 h0 h1 cA (mf_write k ((mf_place n) + 9) ((mf_tell k tm al ln ((mf_place n) + 9)) ||| v)) md tm al ln (mf_tell k tm al ln ((mf_place n) + 9))) ⟨hx, hb, hml, hown, hts⟩ (m_write l D z h0 h1 cA k md tm al ln (mf_tell k tm al ln ((mf_place n) + 9)) H.size ((mf_place n) + 9) ((mf_tell k tm al ln ((mf_place n) + 9)) ||| v) hin2) (cwV 2 hts gX1_access_X1_write rfl rfl rfl (by decide +kernel) ⟨Nat.le_of_ble_eq_true rfl, Nat.le_of_ble_eq_true rfl⟩) hP hD hK hZ hS hA hP [0, 1] [] rfl rfl rfl rfl (by decide) (ci := 1) (q0 := 0) rfl rfl rfl rfl hl.1 rfl (Nat.le_of_ble_eq_true rfl) dX1_access_117 ⟨Nat.zero_le _, Nat.zero_le _⟩ (fun H locs hP hD hS => ?_)
                    have hP : va_P D vwCl (cf_W 1 h0 h1 cA (mf_write k ((mf_place n) + 9) ((mf_tell k tm al ln ((mf_place n) + 9)) ||| v)) md tm al ln (mf_tell k tm al ln ((mf_place n) + 9))) H := hP
                    have hD : va_D A (cf_W 1 h0 h1 cA (mf_write k ((mf_place n) + 9) ((mf_tell k tm al ln ((mf_place n) + 9)) ||| v)) md tm al ln (mf_tell k tm al ln ((mf_place n) + 9))) := hD
                    refine lv_iconst (v := 0) hx hb dX1_access_120 (by decide) ?_
                    exact cf_wrEnd hx hb hr hlocks hP hD hK hS (by simp only [mf_accR, mf_accO, mf_accK, mf_bit, mf_at, cf_wrt, if_neg c_1, if_pos c_2, if_neg c_3, if_pos c_10, if_pos c_11, if_neg c_15, if_neg c_19, if_neg c_20, if_pos c_21, if_neg cf_n10, if_pos cf_p00, ↓reduceIte]) (by simp only [mf_accR, mf_accO, mf_accK, mf_bit, mf_at, cf_wrt, if_neg c_1, if_pos c_2, if_neg c_3, if_pos c_10, if_pos c_11, if_neg c_15, if_neg c_19, if_neg c_20, if_pos c_21, if_neg cf_n10, if_pos cf_p00, ↓reduceIte]) dX1_access_121
                · skip
                  refine lv_iload_n hx hb dX1_access_91 rfl (lv_at hl 6 rfl) ?_
                  refine lv_goto (tgt := 117) hx hb dX1_access_92 (by decide) ?_
                  refine cf_wcallN (As := [.int ((mf_place n) + 9), .int v]) (rest := []) (wc := cf_W 1 h0 h1 cA k md tm al ln (mf_tell k tm al ln ((mf_place n) + 9))) (wr := []) (wF := cf_W 1 h0 h1 cA (mf_write k ((mf_place n) + 9) v) md tm al ln (mf_tell k tm al ln ((mf_place n) + 9))) ⟨hx, hb, hml, hown, hts⟩ (m_write l D z h0 h1 cA k md tm al ln (mf_tell k tm al ln ((mf_place n) + 9)) H.size ((mf_place n) + 9) v hin2) (cwV 2 hts gX1_access_X1_write rfl rfl rfl (by decide +kernel) ⟨Nat.le_of_ble_eq_true rfl, Nat.le_of_ble_eq_true rfl⟩) hP hD hK hZ hS hA hP [0, 1] [] rfl rfl rfl rfl (by decide) (ci := 1) (q0 := 0) rfl rfl rfl rfl hl.1 rfl (Nat.le_of_ble_eq_true rfl) dX1_access_117 ⟨Nat.zero_le _, Nat.zero_le _⟩ (fun H locs hP hD hS => ?_)
                  have hP : va_P D vwCl (cf_W 1 h0 h1 cA (mf_write k ((mf_place n) + 9) v) md tm al ln (mf_tell k tm al ln ((mf_place n) + 9))) H := hP
                  have hD : va_D A (cf_W 1 h0 h1 cA (mf_write k ((mf_place n) + 9) v) md tm al ln (mf_tell k tm al ln ((mf_place n) + 9))) := hD
                  refine lv_iconst (v := 0) hx hb dX1_access_120 (by decide) ?_
                  exact cf_wrEnd hx hb hr hlocks hP hD hK hS (by simp only [mf_accR, mf_accO, mf_accK, mf_bit, mf_at, cf_wrt, if_neg c_1, if_pos c_2, if_neg c_3, if_pos c_10, if_pos c_11, if_neg c_15, if_neg c_19, if_pos c_20, if_neg cf_n10, if_pos cf_p00, ↓reduceIte]) (by simp only [mf_accR, mf_accO, mf_accK, mf_bit, mf_at, cf_wrt, if_neg c_1, if_pos c_2, if_neg c_3, if_pos c_10, if_pos c_11, if_neg c_15, if_neg c_19, if_pos c_20, if_neg cf_n10, if_pos cf_p00, ↓reduceIte]) dX1_access_121
        · skip
          refine lv_iload hx hb dX1_access_39 (lv_at hl 0 rfl) ?_
          exact cf_wrEnd hx hb hr hlocks hP hD hK hS (by simp only [mf_accR, mf_accO, mf_accK, mf_bit, mf_at, cf_wrt, if_neg c_1, if_pos c_2, if_neg c_3, if_neg c_10, if_neg cf_n10, if_pos cf_p00, ↓reduceIte]) (by simp only [mf_accR, mf_accO, mf_accK, mf_bit, mf_at, cf_wrt, if_neg c_1, if_pos c_2, if_neg c_3, if_neg c_10, if_neg cf_n10, if_pos cf_p00, ↓reduceIte]) dX1_access_41
    · skip
      refine lv_iconst (v := -1) hx hb dX1_access_9 (by decide) ?_
      exact cf_wrEnd hx hb hr hlocks hP hD hK hS (by simp only [mf_accR, mf_accO, mf_accK, mf_bit, mf_at, cf_wrt, if_neg c_1, if_neg c_2, if_neg cf_n10, if_pos cf_p00, ↓reduceIte]) (by simp only [mf_accR, mf_accO, mf_accK, mf_bit, mf_at, cf_wrt, if_neg c_1, if_neg c_2, if_neg cf_n10, if_pos cf_p00, ↓reduceIte]) dX1_access_10
set_option maxHeartbeats 4000000 in
set_option maxRecDepth 100000 in
theorem m_begin (l : Launch) (D : va_G) (z : Nat → Nat) (h0 h1 : Nat) (cA : ClassId) (k : Nat → Int32) (md : Int32) (tm al : Int64) (ln od : Int32) (sz : Nat) : Met l yX1_begin wsX1_begin ({ frames := 0, cells := 0, slots := 0, locals := 0 } : Room) (cf_wr [.ref h0] D (cf_W 1 h0 h1 cA k md tm al ln od) [(cA, .int)] sz z) (va_Qv (fun u => u = cf_W 1 h0 h1 cA (cf_fill k 0 29) 1 0 9223372036854775807 0 0) (cf_B D [(cA, .int)] (va_A (cf_W 1 h0 h1 cA k md tm al ln od) sz)) (va_A (cf_W 1 h0 h1 cA k md tm al ln od) sz)) 0 0 (va_A (cf_W 1 h0 h1 cA k md tm al ln od) sz) := by
  refine Met.ofW (cc := cX1_begin) (maxL := 2) (ret := none) (by decide) rfl ?_
  intro p e s m args below meth c s₁ B hml hv
  obtain ⟨rfl, hsz, hP, hK, hD0, hZ⟩ := hv
  have hx := B.exec
  have hb := B.bytes
  have hr := B.returns
  have hts := atoms_spec (ws := wsX1_begin) B.pre
  have hown : s.vm.findClass RX1 = some m.cls := findClass_of_methodNamed B.named
  have hlocks := B.notSynchronized
  have hin0 : ∀ w ∈ wsX10, w ∈ wsX1_begin := by decide +kernel
  subst hsz
  have hD := hD0.self (sz := s.heap.size)
  generalize hAe : va_A (cf_W 1 h0 h1 cA k md tm al ln od) s.heap.size = A at hD hZ ⊢
  have hA : ∀ q : Nat, s.heap.size ≤ q → A q := fun q h => by rw [← hAe]; exact Or.inr h
  have hS : va_S A s.heap s.heap [] := va_S.rf
  have hl := lv_entry ([.ref h0]) (n := 2) (Nat.le_of_ble_eq_true rfl)
  rw [lg_entry_eq]
  generalize (lg_sl ([.ref h0]) ++ List.replicate (2 - (lg_sl ([.ref h0])).length) Slot.unset).toArray = ls at hl ⊢
  have hl : lv_has ls 2 [(0, .ref h0)] := hl
  refine lv_iconst (v := 0) hx hb dX1_begin_0 (by decide) ?_
  refine lv_istore_n (lv' := [(1, .int 0), (0, .ref h0)]) hx hb dX1_begin_1 rfl hl (by decide) rfl (fun ls hl => ?_)
  refine cf_indH (G := fun H locs g => W p l e _ s m _ below meth c H locs 0 0 _ g) 29 (fun i H locs ls => lv_has ls 2 [(1, .int (nI i)), (0, .ref h0)] ∧ va_P D vwCl (cf_W 1 h0 h1 cA (cf_fill k 0 i) md tm al ln od) H ∧ va_D A (cf_W 1 h0 h1 cA (cf_fill k 0 i) md tm al ln od) ∧ va_S A s.heap H locs) ?_ ?_ 29 0 s.heap [] ls rfl (by omega) ⟨hl, by rw [cf_fill_0]; exact hP, by rw [cf_fill_0]; exact hD, hS⟩
  · intro i H locs ls hi hI ih
    obtain ⟨hl, hP, hD, hS⟩ := hI
    refine lv_iload_n hx hb dX1_begin_2 rfl (lv_at hl 0 rfl) ?_
    refine lv_bipush (v := 29) hx hb dX1_begin_3 (by decide) ?_
    refine lv_icmp_ge (tgt := 21) hx hb dX1_begin_5 (by decide) (fun c_1 => ?_) (fun c_1 => ?_)
    · skip
      exact absurd c_1 (show ¬ (29 : Int32) ≤ nI i from nI_ge hi (by decide))
    · skip
      refine lv_aload_n hx hb dX1_begin_8 rfl (lv_at hl 1 rfl) ?_
      refine va_get (D := D) (ci := 1) (v := .ref h1) (C := RX1) (T := TX1) (N := 6) hx hb hts hin0 hown hK hP 0 rfl rfl 0 (by decide) (hts (.fieldLink RX1 7 "ControlFileModel" "kept" "[I") (by decide +kernel)) (fun _ h9 => h9) rfl dX1_begin_9 ?_
      refine lv_iload_n hx hb dX1_begin_12 rfl (lv_at hl 0 rfl) ?_
      refine lv_iconst (v := 0) hx hb dX1_begin_13 (by decide) ?_
      refine va_iast hx hb hK hP hD hS 1 0 rfl rfl (vp_in_nI hi (by omega)) dX1_begin_14 (fun H locs hP hD hS => ?_)
      have hP : va_P D vwCl (cf_W 1 h0 h1 cA (upd (cf_fill k 0 i) (nI i).toNatClampNeg 0) md tm al ln od) H := hP
      have hD : va_D A (cf_W 1 h0 h1 cA (upd (cf_fill k 0 i) (nI i).toNatClampNeg 0) md tm al ln od) := hD
      refine lv_iinc (v := nI (i + 1)) (lv' := [(1, .int (nI (i + 1))), (0, .ref h0)]) hx hb dX1_begin_15 hl (k := 0) rfl (nI_1 i) (by decide) rfl (fun ls hl => ?_)
      refine lv_goto (tgt := 2) hx hb dX1_begin_18 (by decide) ?_
      rw [show upd (cf_fill k 0 i) (nI i).toNatClampNeg 0 = cf_fill k 0 (i + 1) by rw [nI_clamp (by omega)]; exact cf_fill_s k 0 i] at hP hD
      exact ih H locs ls ⟨lv_sub hl [0, 1] rfl, hP, hD, hS⟩
  · intro H locs ls hI
    obtain ⟨hl, hP, hD, hS⟩ := hI
    refine lv_iload_n hx hb dX1_begin_2 rfl (lv_at hl 0 rfl) ?_
    refine lv_bipush (v := 29) hx hb dX1_begin_3 (by decide) ?_
    refine lv_icmp_ge (tgt := 21) hx hb dX1_begin_5 (by decide) (fun c_2 => ?_) (fun c_2 => ?_)
    · skip
      refine lv_aload_n hx hb dX1_begin_21 rfl (lv_at hl 1 rfl) ?_
      refine lv_iconst (v := 1) hx hb dX1_begin_22 (by decide) ?_
      refine va_put (D := D) (ci := 1) (v := .int 1) (ty := .int) (C := RX1) (T := TX1) (N := 6) hx hb hts hin0 tyX1 tyX1_ok nmX1 hown hK hP hD hS 0 rfl rfl 1 (by decide) (hts (.fieldLink RX1 16 "ControlFileModel" "mode" "I") (by decide +kernel)) (fun _ h9 => h9) rfl (by decide +kernel) rfl rfl (Nat.le_of_ble_eq_true rfl) dX1_begin_23 (fun H locs hP hD hS => ?_)
      have hP : va_P D vwCl (cf_W 1 h0 h1 cA (cf_fill k 0 29) 1 tm al ln od) H := hP
      have hD : va_D A (cf_W 1 h0 h1 cA (cf_fill k 0 29) 1 tm al ln od) := hD
      refine lv_aload_n hx hb dX1_begin_26 rfl (lv_at hl 1 rfl) ?_
      refine lv_lconst (v := 0) hx hb dX1_begin_27 (by decide) ?_
      refine va_put (D := D) (ci := 1) (v := .long 0) (ty := .long) (C := RX1) (T := TX1) (N := 6) hx hb hts hin0 tyX1 tyX1_ok nmX1 hown hK hP hD hS 0 rfl rfl 2 (by decide) (hts (.fieldLink RX1 20 "ControlFileModel" "time" "J") (by decide +kernel)) (fun _ h9 => h9) rfl (by decide +kernel) rfl rfl (Nat.le_of_ble_eq_true rfl) dX1_begin_28 (fun H locs hP hD hS => ?_)
      have hP : va_P D vwCl (cf_W 1 h0 h1 cA (cf_fill k 0 29) 1 0 al ln od) H := hP
      have hD : va_D A (cf_W 1 h0 h1 cA (cf_fill k 0 29) 1 0 al ln od) := hD
      refine lv_aload_n hx hb dX1_begin_31 rfl (lv_at hl 1 rfl) ?_
      refine lv_ldc2 (own := RX1) (v := 9223372036854775807) hx hb hown (hts (.constantLong RX1 24 9223372036854775807) (by decide +kernel)) dX1_begin_32 ?_
      refine va_put (D := D) (ci := 1) (v := .long 9223372036854775807) (ty := .long) (C := RX1) (T := TX1) (N := 6) hx hb hts hin0 tyX1 tyX1_ok nmX1 hown hK hP hD hS 0 rfl rfl 3 (by decide) (hts (.fieldLink RX1 26 "ControlFileModel" "alarm" "J") (by decide +kernel)) (fun _ h9 => h9) rfl (by decide +kernel) rfl rfl (Nat.le_of_ble_eq_true rfl) dX1_begin_35 (fun H locs hP hD hS => ?_)
      have hP : va_P D vwCl (cf_W 1 h0 h1 cA (cf_fill k 0 29) 1 0 9223372036854775807 ln od) H := hP
      have hD : va_D A (cf_W 1 h0 h1 cA (cf_fill k 0 29) 1 0 9223372036854775807 ln od) := hD
      refine lv_aload_n hx hb dX1_begin_38 rfl (lv_at hl 1 rfl) ?_
      refine lv_iconst (v := 0) hx hb dX1_begin_39 (by decide) ?_
      refine va_put (D := D) (ci := 1) (v := .int 0) (ty := .boolean) (C := RX1) (T := TX1) (N := 6) hx hb hts hin0 tyX1 tyX1_ok nmX1 hown hK hP hD hS 0 rfl rfl 4 (by decide) (hts (.fieldLink RX1 29 "ControlFileModel" "line" "Z") (by decide +kernel)) (fun _ h9 => h9) rfl (by decide +kernel) rfl rfl (Nat.le_of_ble_eq_true rfl) dX1_begin_40 (fun H locs hP hD hS => ?_)
      have hP : va_P D vwCl (cf_W 1 h0 h1 cA (cf_fill k 0 29) 1 0 9223372036854775807 0 od) H := hP
      have hD : va_D A (cf_W 1 h0 h1 cA (cf_fill k 0 29) 1 0 9223372036854775807 0 od) := hD
      refine lv_aload_n hx hb dX1_begin_43 rfl (lv_at hl 1 rfl) ?_
      refine lv_iconst (v := 0) hx hb dX1_begin_44 (by decide) ?_
      refine va_put (D := D) (ci := 1) (v := .int 0) (ty := .int) (C := RX1) (T := TX1) (N := 6) hx hb hts hin0 tyX1 tyX1_ok nmX1 hown hK hP hD hS 0 rfl rfl 5 (by decide) (hts (.fieldLink RX1 33 "ControlFileModel" "old" "I") (by decide +kernel)) (fun _ h9 => h9) rfl (by decide +kernel) rfl rfl (Nat.le_of_ble_eq_true rfl) dX1_begin_45 (fun H locs hP hD hS => ?_)
      have hP : va_P D vwCl (cf_W 1 h0 h1 cA (cf_fill k 0 29) 1 0 9223372036854775807 0 0) H := hP
      have hD : va_D A (cf_W 1 h0 h1 cA (cf_fill k 0 29) 1 0 9223372036854775807 0 0) := hD
      exact cf_wrEndN hx hb hr hlocks hP hD hK hS (rfl) dX1_begin_48
    · skip
      exact absurd (show (29 : Int32) ≤ nI 29 by decide) c_2
end
section
set_option maxHeartbeats 4000000 in
set_option maxRecDepth 100000 in
theorem m_init (l : Launch) (D : va_G) (z : Nat → Nat) (h0 : Nat) (sz : Nat) : Met l yX1_init wsX1_init ({ frames := 1, cells := 1, slots := 29, locals := 21 } : Room) (cf_wr [.ref h0] D [(h0, .inr (1, [.null, .int 0, .long 0, .long 0, .int 0, .int 0]))] [] sz z) (va_Qv (fun _ : Nat × ClassId => True) (fun u t => cf_B D [(u.2, .int)] (va_A [(h0, .inr (1, [.null, .int 0, .long 0, .long 0, .int 0, .int 0]))] sz) (cf_W 1 h0 u.1 u.2 (cf_fill (fun _ => 0) 0 29) 1 0 9223372036854775807 0 0) t) (va_A [(h0, .inr (1, [.null, .int 0, .long 0, .long 0, .int 0, .int 0]))] sz)) 1 29 (va_A [(h0, .inr (1, [.null, .int 0, .long 0, .long 0, .int 0, .int 0]))] sz) := by
  refine Met.ofW (cc := cX1_init) (maxL := 1) (ret := none) (by decide) rfl ?_
  intro p e s m args below meth c s₁ B hml hv
  obtain ⟨rfl, hsz, hP, hK, hD0, hZ⟩ := hv
  have hx := B.exec
  have hb := B.bytes
  have hr := B.returns
  have hts := atoms_spec (ws := wsX1_init) B.pre
  have hown : s.vm.findClass RX1 = some m.cls := findClass_of_methodNamed B.named
  have hlocks := B.notSynchronized
  have hin : meth.name = "<init>" := (name_of_methodNamed B.named B.method).1
  have hin0 : ∀ w ∈ wsX10, w ∈ wsX1_init := by decide +kernel
  subst hsz
  have hD := hD0.self (sz := s.heap.size)
  generalize hAe : va_A [(h0, .inr (1, [.null, .int 0, .long 0, .long 0, .int 0, .int 0]))] s.heap.size = A at hD hZ ⊢
  have hA : ∀ q : Nat, s.heap.size ≤ q → A q := fun q h => by rw [← hAe]; exact Or.inr h
  have hS : va_S A s.heap s.heap [] := va_S.rf
  have hl := lv_entry ([.ref h0]) (n := 1) (Nat.le_of_ble_eq_true rfl)
  rw [lg_entry_eq]
  generalize (lg_sl ([.ref h0]) ++ List.replicate (1 - (lg_sl ([.ref h0])).length) Slot.unset).toArray = ls at hl ⊢
  have hl : lv_has ls 1 [(0, .ref h0)] := hl
  refine lv_aload_n hx hb dX1_init_0 rfl (lv_at hl 0 rfl) ?_
  refine W.objInit hx hb hown (hts (.methodLink RX1 1 objectInit) (by decide +kernel)) (hts (.instanceMethod objectInit) (by decide +kernel)) (hts (.code objectInit ⟨#[0xb1]⟩ 1 none) (by decide +kernel)) rfl (by rw [hml]; exact hl.1) rfl dX1_init_1 (Nat.le_of_ble_eq_true rfl) (Nat.le_of_ble_eq_true rfl) ?_
  refine W.eq (g2 := F0 m 4 ls []) rfl ?_
  refine lv_aload_n hx hb dX1_init_4 rfl (lv_at hl 0 rfl) ?_
  refine lv_bipush (v := 29) hx hb dX1_init_5 (by decide) ?_
  refine va_newa (atype := .int) (n := 29) (ty := .int) (N' := 29) (a0 := (29, .inl (fun _ => 0))) hx hb (hts (.arrayClass .int) (by decide +kernel)) rfl hK hP hD hS hA (fun _ => rfl) (by decide) (by decide) (by decide) (Nat.le_of_ble_eq_true rfl) (Nat.le_of_ble_eq_true rfl) dX1_init_7 (fun h1 cA H hK hP hD hS => ?_)
  have hK : va_K D vwCl [(cA, .int)] s := hK
  have hP : va_P D vwCl [(h0, .inr (1, [.null, .int 0, .long 0, .long 0, .int 0, .int 0])), (h1, .inl (cA, 29, .inl (fun _ => 0)))] H := hP
  have hD : va_D A [(h0, .inr (1, [.null, .int 0, .long 0, .long 0, .int 0, .int 0])), (h1, .inl (cA, 29, .inl (fun _ => 0)))] := hD
  refine W.widen (k := 1) (n := 29) (by omega) (by omega) ?_
  refine va_putF (D := D) (ci := 1) (v := .ref h1) (ty := .array .int) (C := RX1) (T := TX1) (N := 6) hx hb hts hin0 tyX1 tyX1_ok nmX1 hown hK hP hD hS 0 rfl rfl 0 (by decide) (hts (.fieldLink RX1 7 "ControlFileModel" "kept" "[I") (by decide +kernel)) (fun _ h9 => h9) rfl hin rfl (by decide +kernel) rfl rfl (Nat.le_of_ble_eq_true rfl) dX1_init_9 (fun H locs hP hD hS => ?_)
  have hP : va_P D vwCl (cf_W 1 h0 h1 cA (fun _ => 0) 0 0 0 0 0) H := hP
  have hD : va_D A (cf_W 1 h0 h1 cA (fun _ => 0) 0 0 0 0 0) := hD
  refine lv_aload_n hx hb dX1_init_12 rfl (lv_at hl 0 rfl) ?_
  refine cf_wcallN (As := []) (rest := []) (wc := cf_W 1 h0 h1 cA (fun _ => 0) 0 0 0 0 0) (wr := []) (wF := (cf_W 1 h0 h1 cA (cf_fill (fun _ => 0) 0 29) 1 0 9223372036854775807 0 0)) ⟨hx, hb, hml, hown, hts⟩ (m_begin l D z h0 h1 cA (fun _ => 0) 0 0 0 0 0 H.size) (cwV 0 hts gX1_init_X1_begin rfl rfl rfl (by decide +kernel) ⟨Nat.le_of_ble_eq_true rfl, Nat.le_of_ble_eq_true rfl⟩) hP hD hK hZ hS hA hP [0, 1] [] rfl rfl rfl rfl (by decide) (ci := 1) (q0 := 0) rfl rfl rfl rfl hl.1 rfl (Nat.le_of_ble_eq_true rfl) dX1_init_13 ⟨Nat.le_of_ble_eq_true rfl, Nat.le_of_ble_eq_true rfl⟩ (fun H locs hP hD hS => ?_)
  have hP : va_P D vwCl (cf_W 1 h0 h1 cA (cf_fill (fun _ => 0) 0 29) 1 0 9223372036854775807 0 0) H := hP
  have hD : va_D A (cf_W 1 h0 h1 cA (cf_fill (fun _ => 0) 0 29) 1 0 9223372036854775807 0 0) := hD
  exact W.vret hx hb hr (fun t ht hW => ⟨⟨(h1, cA), rfl, trivial, by rw [ht]; exact hP, va_K.moved hW.alike hK, hD⟩, hS.F ht⟩) hS.2.2 dX1_init_16 hlocks
end
section
/-! THE CLAIM OUT OF ONE WALK OF THE LAW'S BODY. Your part is whole_start (and what it stands on); all else here is the same for every law, but numbers. -/
def R_law : String := "ControlFileLaw"
def lw_P (b : Addr) (xs : List Int32) (args : Array Value) (s : State) : Prop := args = #[.ref b] ∧ s.IntsAt b xs ∧ xs.length ≤ 2048 ∧ (Jvm.Cond.and given_1 narrow_1).before args s = true
def lw_Q (_ : Array Value) (s : State) (o : Outcome) (t : State) : Prop := o = .returned (some (.int 1)) ∧ Framed s o t [] 4 70
def lw_Z (below : List Frame) (a : Array Value) (s : State) : State → Prop := fun t => ∃ o, t.status = .running ∧ Ended t below o ∧ lw_Q a s o t
/-- the law's own end, with 1 on the stack, nothing written that was there before, its room as the claim has it -/
theorem lw_ret {p : Program} {l : Launch} {e : Env} {s : State} {m : MethodId} {below : List Frame} {meth : Method} {c : Code} {b : Nat} (hx : p.tables.exec = Jvm.exec) (hb : c.code = code) (hr : meth.sig.returnType = ret) (hlocks : meth.locks = false) {pc : Nat} {H : Heap} {ls : Array Slot} (hdg : decode code pc = .ok (.ireturn, 1)) : W p l e room_1 s m #[Value.ref b] below meth c H [] 4 70 (lw_Z below #[Value.ref b] s) (F0 m pc ls [.int 1]) := by
  intro T hT X
  obtain ⟨fs, hret, hrun, hended, hW, hframe⟩ := X.leave (v := some (.int 1)) (hlocks := hlocks) (fun h => by rw [hr] at h; cases h)
  have hmeth' : T.vm.method? m = some meth := X.method'
  refine ⟨T.setFrames fs, ?_, .returned (some (.int 1)), hrun, hended, rfl, ⟨_, rfl⟩, hW, hframe⟩
  jvm_step X.here [X.here.top, hx, hb, hdg, hmeth', hr, ret, narrow_b1]
  (try refine ⟨rfl, ?_⟩); (try refine ⟨rfl, ?_⟩)
  first | (intro acts; rw [hret _ acts rfl rfl rfl]) | rw [hret _ _ rfl rfl rfl]
  exact Steps.refl _
/-- what holds at the law's entry: the machine, the code, the tables' words (any of lw_tbl by 'hts w (by decide +kernel)'), the script of L ints xs at the cell b, what the Statement gives of the start (any of its parts by flat_of_before) -/
def lw_At (p : Program) (s : State) (m : MethodId) (meth : Method) (c : Code) (b L : Nat) (xs : Nat → Int32) : Prop :=
  p.tables.exec = Jvm.exec ∧ c.code = code ∧ meth.sig.returnType = ret ∧ c.maxLocals = 4 ∧ s.vm.findClass R_law = some m.cls ∧ (∀ w ∈ lw_tbl, w.before #[Value.ref b] s = true) ∧ va_X b L xs s s.heap ∧ b < s.heap.size ∧ meth.locks = false ∧ (Jvm.Cond.and given_1 narrow_1).before #[Value.ref b] s = true
end
section
theorem mx_access (l : Launch) (D : va_G) (z : Nat → Nat) (h0 h1 : Nat) (cA : ClassId) (k : Nat → Int32) (md : Int32) (tm al : Int64) (ln od : Int32) (sz : Nat) (n : Int32) (kd : Int32) (v : Int32) (hi : cf_inv k) : Met l yX1_access wsX1_access ({ frames := 2, cells := 0, slots := 0, locals := 46 } : Room) (cf_wr [.ref h0, .int n, .int kd, .int v] D (cf_W 1 h0 h1 cA k md tm al ln od) [(cA, .int)] sz z) (va_Qi (fun r u => r = cf_accR k md n kd ∧ u = cf_W 1 h0 h1 cA (cf_accK k md tm al ln n kd v) md tm al ln (cf_accO k md tm al ln od n kd)) (cf_B D [(cA, .int)] (va_A (cf_W 1 h0 h1 cA k md tm al ln od) sz)) (va_A (cf_W 1 h0 h1 cA k md tm al ln od) sz)) 0 0 (va_A (cf_W 1 h0 h1 cA k md tm al ln od) sz) := by
  have h := m_access l D z h0 h1 cA k md tm al ln od sz n kd v
  rw [cf_accR_eq, cf_accO_eq hi, (cf_accK_eq hi md tm al ln n kd v).1] at h
  exact h
theorem mx_control (l : Launch) (D : va_G) (z : Nat → Nat) (h0 h1 : Nat) (cA : ClassId) (k : Nat → Int32) (md : Int32) (tm al : Int64) (ln od : Int32) (n : Int32) (hi : cf_inv k) : Met l yX1_control wsX1_control ({ frames := 2, cells := 0, slots := 0, locals := 42 } : Room) (cf_ro [.ref h0, .int n] D (cf_W 1 h0 h1 cA k md tm al ln od) [(cA, .int)] z) (vp_Si (fun r => r = cf_told k tm al ln (cf_slot n))) 0 0 (fun _ => False) := by
  have h := m_control l D z h0 h1 cA k md tm al ln od n
  rw [cf_ctl_eq hi] at h
  exact h
theorem mx_used (l : Launch) (D : va_G) (z : Nat → Nat) (h0 h1 : Nat) (cA : ClassId) (k : Nat → Int32) (md : Int32) (tm al : Int64) (ln od : Int32) (hi : cf_inv k) : Met l yX1_used wsX1_used ({ frames := 1, cells := 0, slots := 0, locals := 21 } : Room) (cf_ro [.ref h0] D (cf_W 1 h0 h1 cA k md tm al ln od) [(cA, .int)] z) (vp_Si (fun r => r = cf_used k tm al ln)) 0 0 (fun _ => False) := by
  have h := m_used l D z h0 h1 cA k md tm al ln od
  rw [cf_used_eq hi] at h
  exact h
theorem mx_due (l : Launch) (D : va_G) (z : Nat → Nat) (h0 h1 : Nat) (cA : ClassId) (k : Nat → Int32) (md : Int32) (tm al : Int64) (ln od : Int32) (hi : cf_inv k) : Met l yX1_due wsX1_due ({ frames := 1, cells := 0, slots := 0, locals := 23 } : Room) (cf_ro [.ref h0] D (cf_W 1 h0 h1 cA k md tm al ln od) [(cA, .int)] z) (vp_Si (fun r => r = cf_due k md tm al ln)) 0 0 (fun _ => False) := by
  have h := m_due l D z h0 h1 cA k md tm al ln od
  rw [cf_due_eq hi] at h
  exact h
set_option maxHeartbeats 4000000 in
set_option maxRecDepth 100000 in
theorem law_loop {p : Program} {l : Launch} {e : Env} {s : State} {m : MethodId} {below : List Frame} {meth : Method} {c : Code} {D : va_G} {z : Nat → Nat} {b L : Nat} {xs : Nat → Int32} (hL : L ≤ 2048) (C0 : lw_At p s m meth c b L xs) (q0 q1 r0 r1 : Nat) (cA cB : ClassId) (hK : va_K D vwCl [(cA, .int), (cB, .int)] s) (hZ : cf_stat (fun q : Nat => s.heap.size ≤ q) z s s.heap) :
    ∀ (n i : Nat), i ≤ L → L + 1 ≤ i + n → ∀ (k : Nat → Int32) (md : Int32) (tm al : Int64) (ln od : Int32) (H : Heap) (locs : List Loc), cf_inv k → (ln = 0 ∨ ln = 1) → va_P D vwCl (cf_L q0 q1 cA r0 r1 cB k md tm al ln od) H → va_D (fun q : Nat => s.heap.size ≤ q) (cf_L q0 q1 cA r0 r1 cB k md tm al ln od) → va_S (fun q : Nat => s.heap.size ≤ q) s.heap H locs → ∀ (ls : Array Slot), lv_has ls 4 [(0, .ref b), (1, .ref q0), (2, .ref r0), (3, .int (nI i))] → W p l e room_1 s m #[Value.ref b] below meth c H locs 4 70 (lw_Z below #[Value.ref b] s) (F0 m 18 ls []) := by
  obtain ⟨hx, hb, hr, hml, hown, hts0, hX, hbl, hlocks, hgv⟩ := C0
  have hts : ∀ w ∈ wsL_law, w.before #[Value.ref b] s = true := fun w h => hts0 w (wsL_law_in w h)
  have hA : ∀ q : Nat, s.heap.size ≤ q → (fun q : Nat => s.heap.size ≤ q) q := fun _ h => h
  have hbA : ¬ (fun q : Nat => s.heap.size ≤ q) b := Nat.not_le.mpr hbl
  intro n
  induction n with
  | zero =>
    intro i h1 h2
    exact absurd h2 (by omega)
  | succ n ih =>
    intro i hiL hin k md tm al ln od H locs hi hln hP hD hS ls hl
    refine lv_iload_n hx hb dL_law_18 rfl (lv_at hl 3 rfl) ?_
    refine lv_aload_n hx hb dL_law_19 rfl (lv_at hl 0 rfl) ?_
    refine va_slen hx hb hX hbl hbA hS dL_law_20 ?_
    refine lv_iconst (v := 4) hx hb dL_law_21 (by decide) ?_
    refine lv_isub hx hb dL_law_22 ?_
    refine lv_icmp_gt (tgt := 380) hx hb dL_law_23 (by decide) (fun c_1 => ?_) (fun c_1 => ?_)
    · skip
      refine lv_iconst (v := 1) hx hb dL_law_380 (by decide) ?_
      refine va_forget (fun q hq => hS.2.2 q hq) ?_
      exact lw_ret hx hb hr hlocks dL_law_381
    · skip
      have hi4 : i + 4 ≤ L := by
        have q : ¬ nI L - nI 4 < nI i := c_1
        rw [Int32.lt_iff_toInt_lt, pk_sub_toInt (by omega) (by omega), nI_toInt (by omega)] at q
        omega
      have v0 : vp_in (nI i) L := vp_in_nI (by omega) (by omega)
      have v1 : vp_in (nI i + 1) L := by show vp_in (nI i + nI 1) L; rw [nI_add]; exact vp_in_nI (by omega) (by omega)
      have v2 : vp_in (nI i + 2) L := by show vp_in (nI i + nI 2) L; rw [nI_add]; exact vp_in_nI (by omega) (by omega)
      have v3 : vp_in (nI i + 3) L := by show vp_in (nI i + nI 3) L; rw [nI_add]; exact vp_in_nI (by omega) (by omega)
      have nxt : ∀ (k' : Nat → Int32) (md' : Int32) (tm' al' : Int64) (ln' od' : Int32) (H : Heap) (locs : List Loc), cf_inv k' → (ln' = 0 ∨ ln' = 1) → va_P D vwCl (cf_L q0 q1 cA r0 r1 cB k' md' tm' al' ln' od') H → va_D (fun q : Nat => s.heap.size ≤ q) (cf_L q0 q1 cA r0 r1 cB k' md' tm' al' ln' od') → va_S (fun q : Nat => s.heap.size ≤ q) s.heap H locs → W p l e room_1 s m #[Value.ref b] below meth c H locs 4 70 (lw_Z below #[Value.ref b] s) (F0 m 374 ls []) := by
        intro k' md' tm' al' ln' od' H locs hi' hln' hP hD hS
        refine lv_iinc (v := nI (i + 4)) (lv' := [(3, .int (nI (i + 4))), (0, .ref b), (1, .ref q0), (2, .ref r0)]) hx hb dL_law_374 hl (k := 3) rfl (by rw [← nI_add]; rfl) (by decide) rfl (fun ls hl => ?_)
        refine lv_goto (tgt := 18) hx hb dL_law_377 (by decide) ?_
        exact ih (i + 4) hi4 (by omega) k' md' tm' al' ln' od' H locs hi' hln' hP hD hS ls (lv_sub hl [1, 2, 3, 0] rfl)
      refine lv_aload_n hx hb dL_law_26 rfl (lv_at hl 0 rfl) ?_
      refine lv_iload_n hx hb dL_law_27 rfl (lv_at hl 3 rfl) ?_
      refine va_sld hx hb hX hbl hbA hS v0 dL_law_28 ?_
      refine lv_bipush (v := 15) hx hb dL_law_29 (by decide) ?_
      refine lv_iand hx hb dL_law_31 ?_
      obtain ⟨j, hj, ej⟩ := pk_andE (xs (nI i).toNatClampNeg) (m := 15) 4 (by decide)
      rw [ej]
      rcases (show j = 0 ∨ j = 1 ∨ j = 2 ∨ j = 3 ∨ j = 4 ∨ j = 5 ∨ j = 6 ∨ j = 7 ∨ j = 8 ∨ j = 9 ∨ j = 10 ∨ j = 11 ∨ j = 12 ∨ j = 13 ∨ j = 14 ∨ j = 15 by omega) with rfl | rfl | rfl | rfl | rfl | rfl | rfl | rfl | rfl | rfl | rfl | rfl | rfl | rfl | rfl | rfl
      · skip
        refine lv_tableIn (off := 56) (tgt := 88) hx hb dL_law_32 (by decide) (by decide) rfl (by decide) ?_
        refine lv_aload_n hx hb dL_law_88 rfl (lv_at hl 1 rfl) ?_
        refine cf_wcallN (As := []) (rest := []) (wc := cf_W 0 q0 q1 cA k md tm al ln od) (wr := cf_W 1 r0 r1 cB k md tm al ln od) (wF := cf_W 0 q0 q1 cA (cf_fill k 0 29) 1 0 9223372036854775807 0 0) ⟨hx, hb, hml, hown, hts⟩ (c_begin l D z q0 q1 cA k md tm al ln od H.size) (cwV 0 hts gL_law_X0_begin rfl rfl rfl (by decide +kernel) ⟨(Nat.le_of_ble_eq_true rfl), (Nat.le_of_ble_eq_true rfl)⟩) hP hD (hK.sub (tys' := [(cA, .int)]) [0] rfl) hZ hS hA (hP.sub [0, 1] rfl) [0, 1] [2, 3] rfl rfl rfl rfl (by decide) (ci := 0) (q0 := 0) rfl rfl rfl rfl hl.1 rfl (Nat.le_of_ble_eq_true rfl) dL_law_89 ⟨(Nat.le_of_ble_eq_true rfl), (Nat.le_of_ble_eq_true rfl)⟩ (fun H locs hP hD hS => ?_)
        have hP : va_P D vwCl (cf_W 1 r0 r1 cB k md tm al ln od ++ cf_W 0 q0 q1 cA (cf_fill k 0 29) 1 0 9223372036854775807 0 0) H := hP
        have hD : va_D (fun q : Nat => s.heap.size ≤ q) (cf_W 1 r0 r1 cB k md tm al ln od ++ cf_W 0 q0 q1 cA (cf_fill k 0 29) 1 0 9223372036854775807 0 0) := hD
        refine lv_aload_n hx hb dL_law_92 rfl (lv_at hl 2 rfl) ?_
        refine cf_wcallN (As := []) (rest := []) (wc := cf_W 1 r0 r1 cB k md tm al ln od) (wr := cf_W 0 q0 q1 cA (cf_fill k 0 29) 1 0 9223372036854775807 0 0) (wF := cf_W 1 r0 r1 cB (cf_fill k 0 29) 1 0 9223372036854775807 0 0) ⟨hx, hb, hml, hown, hts⟩ (m_begin l D z r0 r1 cB k md tm al ln od H.size) (cwV 0 hts gL_law_X1_begin rfl rfl rfl (by decide +kernel) ⟨(Nat.le_of_ble_eq_true rfl), (Nat.le_of_ble_eq_true rfl)⟩) hP hD (hK.sub (tys' := [(cB, .int)]) [1] rfl) hZ hS hA (hP.sub [0, 1] rfl) [0, 1] [2, 3] rfl rfl rfl rfl (by decide) (ci := 1) (q0 := 0) rfl rfl rfl rfl hl.1 rfl (Nat.le_of_ble_eq_true rfl) dL_law_93 ⟨(Nat.le_of_ble_eq_true rfl), (Nat.le_of_ble_eq_true rfl)⟩ (fun H locs hP hD hS => ?_)
        have hP : va_P D vwCl (cf_W 0 q0 q1 cA (cf_fill k 0 29) 1 0 9223372036854775807 0 0 ++ cf_W 1 r0 r1 cB (cf_fill k 0 29) 1 0 9223372036854775807 0 0) H := hP
        have hD : va_D (fun q : Nat => s.heap.size ≤ q) (cf_W 0 q0 q1 cA (cf_fill k 0 29) 1 0 9223372036854775807 0 0 ++ cf_W 1 r0 r1 cB (cf_fill k 0 29) 1 0 9223372036854775807 0 0) := hD
        refine lv_goto (tgt := 374) hx hb dL_law_96 (by decide) ?_
        exact nxt (cf_fill k 0 29) 1 0 9223372036854775807 0 0 H locs (cf_inv_fill k) (Or.inl rfl) hP hD hS
      · skip
        refine lv_tableIn (off := 67) (tgt := 99) hx hb dL_law_32 (by decide) (by decide) rfl (by decide) ?_
        refine lv_aload_n hx hb dL_law_99 rfl (lv_at hl 1 rfl) ?_
        refine lv_aload_n hx hb dL_law_100 rfl (lv_at hl 0 rfl) ?_
        refine lv_iload_n hx hb dL_law_101 rfl (lv_at hl 3 rfl) ?_
        refine lv_iconst (v := 1) hx hb dL_law_102 (by decide) ?_
        refine lv_iadd hx hb dL_law_103 ?_
        refine va_sld hx hb hX hbl hbA hS v1 dL_law_104 ?_
        refine cf_wcallI (As := [.int (xs ((nI i) + 1).toNatClampNeg)]) (rest := []) (wc := cf_W 0 q0 q1 cA k md tm al ln od) (wr := cf_W 1 r0 r1 cB k md tm al ln od) (wF := cf_W 0 q0 q1 cA k (cf_mdM md (xs ((nI i) + 1).toNatClampNeg)) tm al ln od) ⟨hx, hb, hml, hown, hts⟩ (c_mode l D z q0 q1 cA k md tm al ln od H.size (xs ((nI i) + 1).toNatClampNeg)) (cwV 1 hts gL_law_X0_mode rfl rfl rfl (by decide +kernel) ⟨(Nat.le_of_ble_eq_true rfl), (Nat.le_of_ble_eq_true rfl)⟩) hP hD (hK.sub (tys' := [(cA, .int)]) [0] rfl) hZ hS hA (hP.sub [0, 1] rfl) [0, 1] [2, 3] rfl rfl rfl rfl (by decide) (ci := 0) (q0 := 0) rfl rfl rfl rfl hl.1 rfl (Nat.le_of_ble_eq_true rfl) dL_law_105 ⟨(Nat.le_of_ble_eq_true rfl), (Nat.le_of_ble_eq_true rfl)⟩ (fun H locs hP hD hS => ?_)
        have hP : va_P D vwCl (cf_W 1 r0 r1 cB k md tm al ln od ++ cf_W 0 q0 q1 cA k (cf_mdM md (xs ((nI i) + 1).toNatClampNeg)) tm al ln od) H := hP
        have hD : va_D (fun q : Nat => s.heap.size ≤ q) (cf_W 1 r0 r1 cB k md tm al ln od ++ cf_W 0 q0 q1 cA k (cf_mdM md (xs ((nI i) + 1).toNatClampNeg)) tm al ln od) := hD
        refine lv_aload_n hx hb dL_law_108 rfl (lv_at hl 2 rfl) ?_
        refine lv_aload_n hx hb dL_law_109 rfl (lv_at hl 0 rfl) ?_
        refine lv_iload_n hx hb dL_law_110 rfl (lv_at hl 3 rfl) ?_
        refine lv_iconst (v := 1) hx hb dL_law_111 (by decide) ?_
        refine lv_iadd hx hb dL_law_112 ?_
        refine va_sld hx hb hX hbl hbA hS v1 dL_law_113 ?_
        refine cf_wcallI (As := [.int (xs ((nI i) + 1).toNatClampNeg)]) (rest := [.int (cf_mdR md (xs ((nI i) + 1).toNatClampNeg))]) (wc := cf_W 1 r0 r1 cB k md tm al ln od) (wr := cf_W 0 q0 q1 cA k (cf_mdM md (xs ((nI i) + 1).toNatClampNeg)) tm al ln od) (wF := cf_W 1 r0 r1 cB k (cf_mdM md (xs ((nI i) + 1).toNatClampNeg)) tm al ln od) ⟨hx, hb, hml, hown, hts⟩ (m_mode l D z r0 r1 cB k md tm al ln od H.size (xs ((nI i) + 1).toNatClampNeg)) (cwV 1 hts gL_law_X1_mode rfl rfl rfl (by decide +kernel) ⟨(Nat.le_of_ble_eq_true rfl), (Nat.le_of_ble_eq_true rfl)⟩) hP hD (hK.sub (tys' := [(cB, .int)]) [1] rfl) hZ hS hA (hP.sub [0, 1] rfl) [0, 1] [2, 3] rfl rfl rfl rfl (by decide) (ci := 1) (q0 := 0) rfl rfl rfl rfl hl.1 rfl (Nat.le_of_ble_eq_true rfl) dL_law_114 ⟨(Nat.le_of_ble_eq_true rfl), (Nat.le_of_ble_eq_true rfl)⟩ (fun H locs hP hD hS => ?_)
        have hP : va_P D vwCl (cf_W 0 q0 q1 cA k (cf_mdM md (xs ((nI i) + 1).toNatClampNeg)) tm al ln od ++ cf_W 1 r0 r1 cB k (cf_mdM md (xs ((nI i) + 1).toNatClampNeg)) tm al ln od) H := hP
        have hD : va_D (fun q : Nat => s.heap.size ≤ q) (cf_W 0 q0 q1 cA k (cf_mdM md (xs ((nI i) + 1).toNatClampNeg)) tm al ln od ++ cf_W 1 r0 r1 cB k (cf_mdM md (xs ((nI i) + 1).toNatClampNeg)) tm al ln od) := hD
        refine lv_icmp_eq (tgt := 374) hx hb dL_law_117 (by decide) (fun c_2 => ?_) (fun c_2 => ?_)
        · skip
          exact nxt k (cf_mdM md (xs ((nI i) + 1).toNatClampNeg)) tm al ln od H locs hi hln hP hD hS
        · skip
          exact absurd rfl c_2
      · skip
        refine lv_tableIn (off := 90) (tgt := 122) hx hb dL_law_32 (by decide) (by decide) rfl (by decide) ?_
        refine lv_aload_n hx hb dL_law_122 rfl (lv_at hl 1 rfl) ?_
        refine lv_aload_n hx hb dL_law_123 rfl (lv_at hl 0 rfl) ?_
        refine lv_iload_n hx hb dL_law_124 rfl (lv_at hl 3 rfl) ?_
        refine lv_iconst (v := 1) hx hb dL_law_125 (by decide) ?_
        refine lv_iadd hx hb dL_law_126 ?_
        refine va_sld hx hb hX hbl hbA hS v1 dL_law_127 ?_
        refine lv_i2l (v := (xs ((nI i) + 1).toNatClampNeg).toInt64) hx hb dL_law_128 rfl ?_
        refine lv_bipush (v := 32) hx hb dL_law_129 (by decide) ?_
        refine lv_lshl (v := ((xs ((nI i) + 1).toNatClampNeg).toInt64) <<< ((32 : Int32).toInt64 &&& 63)) hx hb dL_law_131 rfl ?_
        refine lv_aload_n hx hb dL_law_132 rfl (lv_at hl 0 rfl) ?_
        refine lv_iload_n hx hb dL_law_133 rfl (lv_at hl 3 rfl) ?_
        refine lv_iconst (v := 2) hx hb dL_law_134 (by decide) ?_
        refine lv_iadd hx hb dL_law_135 ?_
        refine va_sld hx hb hX hbl hbA hS v2 dL_law_136 ?_
        refine lv_i2l (v := (xs ((nI i) + 2).toNatClampNeg).toInt64) hx hb dL_law_137 rfl ?_
        refine lv_ldc2 (own := RL) (v := 4294967295) hx hb hown (hts0 (.constantLong RL 22 4294967295) (by decide +kernel)) dL_law_138 ?_
        refine lv_land hx hb dL_law_141 ?_
        refine lv_lor hx hb dL_law_142 ?_
        refine cf_wcallL (As := [.long ((((xs ((nI i) + 1).toNatClampNeg).toInt64) <<< ((32 : Int32).toInt64 &&& 63)) ||| (((xs ((nI i) + 2).toNatClampNeg).toInt64) &&& 4294967295))]) (rest := []) (wc := cf_W 0 q0 q1 cA k md tm al ln od) (wr := cf_W 1 r0 r1 cB k md tm al ln od) (wF := cf_W 0 q0 q1 cA k md (cf_tmM tm ((((xs ((nI i) + 1).toNatClampNeg).toInt64) <<< ((32 : Int32).toInt64 &&& 63)) ||| (((xs ((nI i) + 2).toNatClampNeg).toInt64) &&& 4294967295))) al ln od) ⟨hx, hb, hml, hown, hts⟩ (c_time l D z q0 q1 cA k md tm al ln od H.size ((((xs ((nI i) + 1).toNatClampNeg).toInt64) <<< ((32 : Int32).toInt64 &&& 63)) ||| (((xs ((nI i) + 2).toNatClampNeg).toInt64) &&& 4294967295))) (cwV 1 hts gL_law_X0_time rfl rfl rfl (by decide +kernel) ⟨(Nat.le_of_ble_eq_true rfl), (Nat.le_of_ble_eq_true rfl)⟩) hP hD (hK.sub (tys' := [(cA, .int)]) [0] rfl) hZ hS hA (hP.sub [0, 1] rfl) [0, 1] [2, 3] rfl rfl rfl rfl (by decide) (ci := 0) (q0 := 0) rfl rfl rfl rfl hl.1 rfl (Nat.le_of_ble_eq_true rfl) dL_law_143 ⟨(Nat.le_of_ble_eq_true rfl), (Nat.le_of_ble_eq_true rfl)⟩ (fun H locs hP hD hS => ?_)
        have hP : va_P D vwCl (cf_W 1 r0 r1 cB k md tm al ln od ++ cf_W 0 q0 q1 cA k md (cf_tmM tm ((((xs ((nI i) + 1).toNatClampNeg).toInt64) <<< ((32 : Int32).toInt64 &&& 63)) ||| (((xs ((nI i) + 2).toNatClampNeg).toInt64) &&& 4294967295))) al ln od) H := hP
        have hD : va_D (fun q : Nat => s.heap.size ≤ q) (cf_W 1 r0 r1 cB k md tm al ln od ++ cf_W 0 q0 q1 cA k md (cf_tmM tm ((((xs ((nI i) + 1).toNatClampNeg).toInt64) <<< ((32 : Int32).toInt64 &&& 63)) ||| (((xs ((nI i) + 2).toNatClampNeg).toInt64) &&& 4294967295))) al ln od) := hD
        refine lv_aload_n hx hb dL_law_146 rfl (lv_at hl 2 rfl) ?_
        refine lv_aload_n hx hb dL_law_147 rfl (lv_at hl 0 rfl) ?_
        refine lv_iload_n hx hb dL_law_148 rfl (lv_at hl 3 rfl) ?_
        refine lv_iconst (v := 1) hx hb dL_law_149 (by decide) ?_
        refine lv_iadd hx hb dL_law_150 ?_
        refine va_sld hx hb hX hbl hbA hS v1 dL_law_151 ?_
        refine lv_i2l (v := (xs ((nI i) + 1).toNatClampNeg).toInt64) hx hb dL_law_152 rfl ?_
        refine lv_bipush (v := 32) hx hb dL_law_153 (by decide) ?_
        refine lv_lshl (v := ((xs ((nI i) + 1).toNatClampNeg).toInt64) <<< ((32 : Int32).toInt64 &&& 63)) hx hb dL_law_155 rfl ?_
        refine lv_aload_n hx hb dL_law_156 rfl (lv_at hl 0 rfl) ?_
        refine lv_iload_n hx hb dL_law_157 rfl (lv_at hl 3 rfl) ?_
        refine lv_iconst (v := 2) hx hb dL_law_158 (by decide) ?_
        refine lv_iadd hx hb dL_law_159 ?_
        refine va_sld hx hb hX hbl hbA hS v2 dL_law_160 ?_
        refine lv_i2l (v := (xs ((nI i) + 2).toNatClampNeg).toInt64) hx hb dL_law_161 rfl ?_
        refine lv_ldc2 (own := RL) (v := 4294967295) hx hb hown (hts0 (.constantLong RL 22 4294967295) (by decide +kernel)) dL_law_162 ?_
        refine lv_land hx hb dL_law_165 ?_
        refine lv_lor hx hb dL_law_166 ?_
        refine cf_wcallL (As := [.long ((((xs ((nI i) + 1).toNatClampNeg).toInt64) <<< ((32 : Int32).toInt64 &&& 63)) ||| (((xs ((nI i) + 2).toNatClampNeg).toInt64) &&& 4294967295))]) (rest := [.long (cf_tmR tm ((((xs ((nI i) + 1).toNatClampNeg).toInt64) <<< ((32 : Int32).toInt64 &&& 63)) ||| (((xs ((nI i) + 2).toNatClampNeg).toInt64) &&& 4294967295)))]) (wc := cf_W 1 r0 r1 cB k md tm al ln od) (wr := cf_W 0 q0 q1 cA k md (cf_tmM tm ((((xs ((nI i) + 1).toNatClampNeg).toInt64) <<< ((32 : Int32).toInt64 &&& 63)) ||| (((xs ((nI i) + 2).toNatClampNeg).toInt64) &&& 4294967295))) al ln od) (wF := cf_W 1 r0 r1 cB k md (cf_tmM tm ((((xs ((nI i) + 1).toNatClampNeg).toInt64) <<< ((32 : Int32).toInt64 &&& 63)) ||| (((xs ((nI i) + 2).toNatClampNeg).toInt64) &&& 4294967295))) al ln od) ⟨hx, hb, hml, hown, hts⟩ (m_time l D z r0 r1 cB k md tm al ln od H.size ((((xs ((nI i) + 1).toNatClampNeg).toInt64) <<< ((32 : Int32).toInt64 &&& 63)) ||| (((xs ((nI i) + 2).toNatClampNeg).toInt64) &&& 4294967295))) (cwV 1 hts gL_law_X1_time rfl rfl rfl (by decide +kernel) ⟨(Nat.le_of_ble_eq_true rfl), (Nat.le_of_ble_eq_true rfl)⟩) hP hD (hK.sub (tys' := [(cB, .int)]) [1] rfl) hZ hS hA (hP.sub [0, 1] rfl) [0, 1] [2, 3] rfl rfl rfl rfl (by decide) (ci := 1) (q0 := 0) rfl rfl rfl rfl hl.1 rfl (Nat.le_of_ble_eq_true rfl) dL_law_167 ⟨(Nat.le_of_ble_eq_true rfl), (Nat.le_of_ble_eq_true rfl)⟩ (fun H locs hP hD hS => ?_)
        have hP : va_P D vwCl (cf_W 0 q0 q1 cA k md (cf_tmM tm ((((xs ((nI i) + 1).toNatClampNeg).toInt64) <<< ((32 : Int32).toInt64 &&& 63)) ||| (((xs ((nI i) + 2).toNatClampNeg).toInt64) &&& 4294967295))) al ln od ++ cf_W 1 r0 r1 cB k md (cf_tmM tm ((((xs ((nI i) + 1).toNatClampNeg).toInt64) <<< ((32 : Int32).toInt64 &&& 63)) ||| (((xs ((nI i) + 2).toNatClampNeg).toInt64) &&& 4294967295))) al ln od) H := hP
        have hD : va_D (fun q : Nat => s.heap.size ≤ q) (cf_W 0 q0 q1 cA k md (cf_tmM tm ((((xs ((nI i) + 1).toNatClampNeg).toInt64) <<< ((32 : Int32).toInt64 &&& 63)) ||| (((xs ((nI i) + 2).toNatClampNeg).toInt64) &&& 4294967295))) al ln od ++ cf_W 1 r0 r1 cB k md (cf_tmM tm ((((xs ((nI i) + 1).toNatClampNeg).toInt64) <<< ((32 : Int32).toInt64 &&& 63)) ||| (((xs ((nI i) + 2).toNatClampNeg).toInt64) &&& 4294967295))) al ln od) := hD
        refine W.lcmp hx hb dL_law_170 ?_
        refine lv_if_eq (tgt := 374) hx hb dL_law_171 (by decide) (fun c_3 => ?_) (fun c_3 => ?_)
        · skip
          exact nxt k md (cf_tmM tm ((((xs ((nI i) + 1).toNatClampNeg).toInt64) <<< ((32 : Int32).toInt64 &&& 63)) ||| (((xs ((nI i) + 2).toNatClampNeg).toInt64) &&& 4294967295))) al ln od H locs hi hln hP hD hS
        · skip
          exact absurd ((lg_cmp_eq _ _).mpr rfl) c_3
      · skip
        refine lv_tableIn (off := 144) (tgt := 176) hx hb dL_law_32 (by decide) (by decide) rfl (by decide) ?_
        refine lv_aload_n hx hb dL_law_176 rfl (lv_at hl 1 rfl) ?_
        refine lv_aload_n hx hb dL_law_177 rfl (lv_at hl 0 rfl) ?_
        refine lv_iload_n hx hb dL_law_178 rfl (lv_at hl 3 rfl) ?_
        refine lv_iconst (v := 1) hx hb dL_law_179 (by decide) ?_
        refine lv_iadd hx hb dL_law_180 ?_
        refine va_sld hx hb hX hbl hbA hS v1 dL_law_181 ?_
        refine lv_i2l (v := (xs ((nI i) + 1).toNatClampNeg).toInt64) hx hb dL_law_182 rfl ?_
        refine lv_bipush (v := 32) hx hb dL_law_183 (by decide) ?_
        refine lv_lshl (v := ((xs ((nI i) + 1).toNatClampNeg).toInt64) <<< ((32 : Int32).toInt64 &&& 63)) hx hb dL_law_185 rfl ?_
        refine lv_aload_n hx hb dL_law_186 rfl (lv_at hl 0 rfl) ?_
        refine lv_iload_n hx hb dL_law_187 rfl (lv_at hl 3 rfl) ?_
        refine lv_iconst (v := 2) hx hb dL_law_188 (by decide) ?_
        refine lv_iadd hx hb dL_law_189 ?_
        refine va_sld hx hb hX hbl hbA hS v2 dL_law_190 ?_
        refine lv_i2l (v := (xs ((nI i) + 2).toNatClampNeg).toInt64) hx hb dL_law_191 rfl ?_
        refine lv_ldc2 (own := RL) (v := 4294967295) hx hb hown (hts0 (.constantLong RL 22 4294967295) (by decide +kernel)) dL_law_192 ?_
        refine lv_land hx hb dL_law_195 ?_
        refine lv_lor hx hb dL_law_196 ?_
        refine cf_wcallL (As := [.long ((((xs ((nI i) + 1).toNatClampNeg).toInt64) <<< ((32 : Int32).toInt64 &&& 63)) ||| (((xs ((nI i) + 2).toNatClampNeg).toInt64) &&& 4294967295))]) (rest := []) (wc := cf_W 0 q0 q1 cA k md tm al ln od) (wr := cf_W 1 r0 r1 cB k md tm al ln od) (wF := cf_W 0 q0 q1 cA k md tm (cf_alM ((((xs ((nI i) + 1).toNatClampNeg).toInt64) <<< ((32 : Int32).toInt64 &&& 63)) ||| (((xs ((nI i) + 2).toNatClampNeg).toInt64) &&& 4294967295))) ln od) ⟨hx, hb, hml, hown, hts⟩ (c_alarm l D z q0 q1 cA k md tm al ln od H.size ((((xs ((nI i) + 1).toNatClampNeg).toInt64) <<< ((32 : Int32).toInt64 &&& 63)) ||| (((xs ((nI i) + 2).toNatClampNeg).toInt64) &&& 4294967295))) (cwV 1 hts gL_law_X0_alarm rfl rfl rfl (by decide +kernel) ⟨(Nat.le_of_ble_eq_true rfl), (Nat.le_of_ble_eq_true rfl)⟩) hP hD (hK.sub (tys' := [(cA, .int)]) [0] rfl) hZ hS hA (hP.sub [0, 1] rfl) [0, 1] [2, 3] rfl rfl rfl rfl (by decide) (ci := 0) (q0 := 0) rfl rfl rfl rfl hl.1 rfl (Nat.le_of_ble_eq_true rfl) dL_law_197 ⟨(Nat.le_of_ble_eq_true rfl), (Nat.le_of_ble_eq_true rfl)⟩ (fun H locs hP hD hS => ?_)
        have hP : va_P D vwCl (cf_W 1 r0 r1 cB k md tm al ln od ++ cf_W 0 q0 q1 cA k md tm (cf_alM ((((xs ((nI i) + 1).toNatClampNeg).toInt64) <<< ((32 : Int32).toInt64 &&& 63)) ||| (((xs ((nI i) + 2).toNatClampNeg).toInt64) &&& 4294967295))) ln od) H := hP
        have hD : va_D (fun q : Nat => s.heap.size ≤ q) (cf_W 1 r0 r1 cB k md tm al ln od ++ cf_W 0 q0 q1 cA k md tm (cf_alM ((((xs ((nI i) + 1).toNatClampNeg).toInt64) <<< ((32 : Int32).toInt64 &&& 63)) ||| (((xs ((nI i) + 2).toNatClampNeg).toInt64) &&& 4294967295))) ln od) := hD
        refine lv_aload_n hx hb dL_law_200 rfl (lv_at hl 2 rfl) ?_
        refine lv_aload_n hx hb dL_law_201 rfl (lv_at hl 0 rfl) ?_
        refine lv_iload_n hx hb dL_law_202 rfl (lv_at hl 3 rfl) ?_
        refine lv_iconst (v := 1) hx hb dL_law_203 (by decide) ?_
        refine lv_iadd hx hb dL_law_204 ?_
        refine va_sld hx hb hX hbl hbA hS v1 dL_law_205 ?_
        refine lv_i2l (v := (xs ((nI i) + 1).toNatClampNeg).toInt64) hx hb dL_law_206 rfl ?_
        refine lv_bipush (v := 32) hx hb dL_law_207 (by decide) ?_
        refine lv_lshl (v := ((xs ((nI i) + 1).toNatClampNeg).toInt64) <<< ((32 : Int32).toInt64 &&& 63)) hx hb dL_law_209 rfl ?_
        refine lv_aload_n hx hb dL_law_210 rfl (lv_at hl 0 rfl) ?_
        refine lv_iload_n hx hb dL_law_211 rfl (lv_at hl 3 rfl) ?_
        refine lv_iconst (v := 2) hx hb dL_law_212 (by decide) ?_
        refine lv_iadd hx hb dL_law_213 ?_
        refine va_sld hx hb hX hbl hbA hS v2 dL_law_214 ?_
        refine lv_i2l (v := (xs ((nI i) + 2).toNatClampNeg).toInt64) hx hb dL_law_215 rfl ?_
        refine lv_ldc2 (own := RL) (v := 4294967295) hx hb hown (hts0 (.constantLong RL 22 4294967295) (by decide +kernel)) dL_law_216 ?_
        refine lv_land hx hb dL_law_219 ?_
        refine lv_lor hx hb dL_law_220 ?_
        refine cf_wcallL (As := [.long ((((xs ((nI i) + 1).toNatClampNeg).toInt64) <<< ((32 : Int32).toInt64 &&& 63)) ||| (((xs ((nI i) + 2).toNatClampNeg).toInt64) &&& 4294967295))]) (rest := [.long al]) (wc := cf_W 1 r0 r1 cB k md tm al ln od) (wr := cf_W 0 q0 q1 cA k md tm (cf_alM ((((xs ((nI i) + 1).toNatClampNeg).toInt64) <<< ((32 : Int32).toInt64 &&& 63)) ||| (((xs ((nI i) + 2).toNatClampNeg).toInt64) &&& 4294967295))) ln od) (wF := cf_W 1 r0 r1 cB k md tm (cf_alM ((((xs ((nI i) + 1).toNatClampNeg).toInt64) <<< ((32 : Int32).toInt64 &&& 63)) ||| (((xs ((nI i) + 2).toNatClampNeg).toInt64) &&& 4294967295))) ln od) ⟨hx, hb, hml, hown, hts⟩ (m_alarm l D z r0 r1 cB k md tm al ln od H.size ((((xs ((nI i) + 1).toNatClampNeg).toInt64) <<< ((32 : Int32).toInt64 &&& 63)) ||| (((xs ((nI i) + 2).toNatClampNeg).toInt64) &&& 4294967295))) (cwV 1 hts gL_law_X1_alarm rfl rfl rfl (by decide +kernel) ⟨(Nat.le_of_ble_eq_true rfl), (Nat.le_of_ble_eq_true rfl)⟩) hP hD (hK.sub (tys' := [(cB, .int)]) [1] rfl) hZ hS hA (hP.sub [0, 1] rfl) [0, 1] [2, 3] rfl rfl rfl rfl (by decide) (ci := 1) (q0 := 0) rfl rfl rfl rfl hl.1 rfl (Nat.le_of_ble_eq_true rfl) dL_law_221 ⟨(Nat.le_of_ble_eq_true rfl), (Nat.le_of_ble_eq_true rfl)⟩ (fun H locs hP hD hS => ?_)
        have hP : va_P D vwCl (cf_W 0 q0 q1 cA k md tm (cf_alM ((((xs ((nI i) + 1).toNatClampNeg).toInt64) <<< ((32 : Int32).toInt64 &&& 63)) ||| (((xs ((nI i) + 2).toNatClampNeg).toInt64) &&& 4294967295))) ln od ++ cf_W 1 r0 r1 cB k md tm (cf_alM ((((xs ((nI i) + 1).toNatClampNeg).toInt64) <<< ((32 : Int32).toInt64 &&& 63)) ||| (((xs ((nI i) + 2).toNatClampNeg).toInt64) &&& 4294967295))) ln od) H := hP
        have hD : va_D (fun q : Nat => s.heap.size ≤ q) (cf_W 0 q0 q1 cA k md tm (cf_alM ((((xs ((nI i) + 1).toNatClampNeg).toInt64) <<< ((32 : Int32).toInt64 &&& 63)) ||| (((xs ((nI i) + 2).toNatClampNeg).toInt64) &&& 4294967295))) ln od ++ cf_W 1 r0 r1 cB k md tm (cf_alM ((((xs ((nI i) + 1).toNatClampNeg).toInt64) <<< ((32 : Int32).toInt64 &&& 63)) ||| (((xs ((nI i) + 2).toNatClampNeg).toInt64) &&& 4294967295))) ln od) := hD
        refine W.lcmp hx hb dL_law_224 ?_
        refine lv_if_eq (tgt := 374) hx hb dL_law_225 (by decide) (fun c_4 => ?_) (fun c_4 => ?_)
        · skip
          exact nxt k md tm (cf_alM ((((xs ((nI i) + 1).toNatClampNeg).toInt64) <<< ((32 : Int32).toInt64 &&& 63)) ||| (((xs ((nI i) + 2).toNatClampNeg).toInt64) &&& 4294967295))) ln od H locs hi hln hP hD hS
        · skip
          exact absurd ((lg_cmp_eq _ _).mpr rfl) c_4
      · skip
        refine lv_tableIn (off := 198) (tgt := 230) hx hb dL_law_32 (by decide) (by decide) rfl (by decide) ?_
        refine lv_aload_n hx hb dL_law_230 rfl (lv_at hl 1 rfl) ?_
        refine lv_aload_n hx hb dL_law_231 rfl (lv_at hl 0 rfl) ?_
        refine lv_iload_n hx hb dL_law_232 rfl (lv_at hl 3 rfl) ?_
        refine lv_iconst (v := 1) hx hb dL_law_233 (by decide) ?_
        refine lv_iadd hx hb dL_law_234 ?_
        refine va_sld hx hb hX hbl hbA hS v1 dL_law_235 ?_
        refine lv_if_eq (tgt := 243) hx hb dL_law_236 (by decide) (fun c_5 => ?_) (fun c_5 => ?_)
        · skip
          refine lv_iconst (v := 0) hx hb dL_law_243 (by decide) ?_
          refine cf_wcallI (As := [.int 0]) (rest := []) (wc := cf_W 0 q0 q1 cA k md tm al ln od) (wr := cf_W 1 r0 r1 cB k md tm al ln od) (wF := cf_W 0 q0 q1 cA k md tm al 0 od) ⟨hx, hb, hml, hown, hts⟩ (c_line l D z q0 q1 cA k md tm al ln od H.size 0 hln (Or.inl rfl)) (cwV 1 hts gL_law_X0_line rfl rfl rfl (by decide +kernel) ⟨(Nat.le_of_ble_eq_true rfl), (Nat.le_of_ble_eq_true rfl)⟩) hP hD (hK.sub (tys' := [(cA, .int)]) [0] rfl) hZ hS hA (hP.sub [0, 1] rfl) [0, 1] [2, 3] rfl rfl rfl rfl (by decide) (ci := 0) (q0 := 0) rfl rfl rfl rfl hl.1 rfl (Nat.le_of_ble_eq_true rfl) dL_law_244 ⟨(Nat.le_of_ble_eq_true rfl), (Nat.le_of_ble_eq_true rfl)⟩ (fun H locs hP hD hS => ?_)
          have hP : va_P D vwCl (cf_W 1 r0 r1 cB k md tm al ln od ++ cf_W 0 q0 q1 cA k md tm al 0 od) H := hP
          have hD : va_D (fun q : Nat => s.heap.size ≤ q) (cf_W 1 r0 r1 cB k md tm al ln od ++ cf_W 0 q0 q1 cA k md tm al 0 od) := hD
          refine lv_aload_n hx hb dL_law_247 rfl (lv_at hl 2 rfl) ?_
          refine lv_aload_n hx hb dL_law_248 rfl (lv_at hl 0 rfl) ?_
          refine lv_iload_n hx hb dL_law_249 rfl (lv_at hl 3 rfl) ?_
          refine lv_iconst (v := 1) hx hb dL_law_250 (by decide) ?_
          refine lv_iadd hx hb dL_law_251 ?_
          refine va_sld hx hb hX hbl hbA hS v1 dL_law_252 ?_
          refine lv_if_eq (tgt := 260) hx hb dL_law_253 (by decide) (fun c_6 => ?_) (fun c_6 => ?_)
          · skip
            refine lv_iconst (v := 0) hx hb dL_law_260 (by decide) ?_
            refine cf_wcallI (As := [.int 0]) (rest := [.int ln]) (wc := cf_W 1 r0 r1 cB k md tm al ln od) (wr := cf_W 0 q0 q1 cA k md tm al 0 od) (wF := cf_W 1 r0 r1 cB k md tm al 0 od) ⟨hx, hb, hml, hown, hts⟩ (m_line l D z r0 r1 cB k md tm al ln od H.size 0 hln (Or.inl rfl)) (cwV 1 hts gL_law_X1_line rfl rfl rfl (by decide +kernel) ⟨(Nat.le_of_ble_eq_true rfl), (Nat.le_of_ble_eq_true rfl)⟩) hP hD (hK.sub (tys' := [(cB, .int)]) [1] rfl) hZ hS hA (hP.sub [0, 1] rfl) [0, 1] [2, 3] rfl rfl rfl rfl (by decide) (ci := 1) (q0 := 0) rfl rfl rfl rfl hl.1 rfl (Nat.le_of_ble_eq_true rfl) dL_law_261 ⟨(Nat.le_of_ble_eq_true rfl), (Nat.le_of_ble_eq_true rfl)⟩ (fun H locs hP hD hS => ?_)
            have hP : va_P D vwCl (cf_W 0 q0 q1 cA k md tm al 0 od ++ cf_W 1 r0 r1 cB k md tm al 0 od) H := hP
            have hD : va_D (fun q : Nat => s.heap.size ≤ q) (cf_W 0 q0 q1 cA k md tm al 0 od ++ cf_W 1 r0 r1 cB k md tm al 0 od) := hD
            refine lv_icmp_eq (tgt := 374) hx hb dL_law_264 (by decide) (fun c_7 => ?_) (fun c_7 => ?_)
            · skip
              exact nxt k md tm al 0 od H locs hi (Or.inl rfl) hP hD hS
            · skip
              exact absurd rfl c_7
          · skip
            exact absurd c_5 c_6
        · skip
          refine lv_iconst (v := 1) hx hb dL_law_239 (by decide) ?_
          refine lv_goto (tgt := 244) hx hb dL_law_240 (by decide) ?_
          refine cf_wcallI (As := [.int 1]) (rest := []) (wc := cf_W 0 q0 q1 cA k md tm al ln od) (wr := cf_W 1 r0 r1 cB k md tm al ln od) (wF := cf_W 0 q0 q1 cA k md tm al 1 od) ⟨hx, hb, hml, hown, hts⟩ (c_line l D z q0 q1 cA k md tm al ln od H.size 1 hln (Or.inr rfl)) (cwV 1 hts gL_law_X0_line rfl rfl rfl (by decide +kernel) ⟨(Nat.le_of_ble_eq_true rfl), (Nat.le_of_ble_eq_true rfl)⟩) hP hD (hK.sub (tys' := [(cA, .int)]) [0] rfl) hZ hS hA (hP.sub [0, 1] rfl) [0, 1] [2, 3] rfl rfl rfl rfl (by decide) (ci := 0) (q0 := 0) rfl rfl rfl rfl hl.1 rfl (Nat.le_of_ble_eq_true rfl) dL_law_244 ⟨(Nat.le_of_ble_eq_true rfl), (Nat.le_of_ble_eq_true rfl)⟩ (fun H locs hP hD hS => ?_)
          have hP : va_P D vwCl (cf_W 1 r0 r1 cB k md tm al ln od ++ cf_W 0 q0 q1 cA k md tm al 1 od) H := hP
          have hD : va_D (fun q : Nat => s.heap.size ≤ q) (cf_W 1 r0 r1 cB k md tm al ln od ++ cf_W 0 q0 q1 cA k md tm al 1 od) := hD
          refine lv_aload_n hx hb dL_law_247 rfl (lv_at hl 2 rfl) ?_
          refine lv_aload_n hx hb dL_law_248 rfl (lv_at hl 0 rfl) ?_
          refine lv_iload_n hx hb dL_law_249 rfl (lv_at hl 3 rfl) ?_
          refine lv_iconst (v := 1) hx hb dL_law_250 (by decide) ?_
          refine lv_iadd hx hb dL_law_251 ?_
          refine va_sld hx hb hX hbl hbA hS v1 dL_law_252 ?_
          refine lv_if_eq (tgt := 260) hx hb dL_law_253 (by decide) (fun c_8 => ?_) (fun c_8 => ?_)
          · skip
            exact absurd c_8 c_5
          · skip
            refine lv_iconst (v := 1) hx hb dL_law_256 (by decide) ?_
            refine lv_goto (tgt := 261) hx hb dL_law_257 (by decide) ?_
            refine cf_wcallI (As := [.int 1]) (rest := [.int ln]) (wc := cf_W 1 r0 r1 cB k md tm al ln od) (wr := cf_W 0 q0 q1 cA k md tm al 1 od) (wF := cf_W 1 r0 r1 cB k md tm al 1 od) ⟨hx, hb, hml, hown, hts⟩ (m_line l D z r0 r1 cB k md tm al ln od H.size 1 hln (Or.inr rfl)) (cwV 1 hts gL_law_X1_line rfl rfl rfl (by decide +kernel) ⟨(Nat.le_of_ble_eq_true rfl), (Nat.le_of_ble_eq_true rfl)⟩) hP hD (hK.sub (tys' := [(cB, .int)]) [1] rfl) hZ hS hA (hP.sub [0, 1] rfl) [0, 1] [2, 3] rfl rfl rfl rfl (by decide) (ci := 1) (q0 := 0) rfl rfl rfl rfl hl.1 rfl (Nat.le_of_ble_eq_true rfl) dL_law_261 ⟨(Nat.le_of_ble_eq_true rfl), (Nat.le_of_ble_eq_true rfl)⟩ (fun H locs hP hD hS => ?_)
            have hP : va_P D vwCl (cf_W 0 q0 q1 cA k md tm al 1 od ++ cf_W 1 r0 r1 cB k md tm al 1 od) H := hP
            have hD : va_D (fun q : Nat => s.heap.size ≤ q) (cf_W 0 q0 q1 cA k md tm al 1 od ++ cf_W 1 r0 r1 cB k md tm al 1 od) := hD
            refine lv_icmp_eq (tgt := 374) hx hb dL_law_264 (by decide) (fun c_9 => ?_) (fun c_9 => ?_)
            · skip
              exact nxt k md tm al 1 od H locs hi (Or.inr rfl) hP hD hS
            · skip
              exact absurd rfl c_9
      · skip
        refine lv_tableIn (off := 237) (tgt := 269) hx hb dL_law_32 (by decide) (by decide) rfl (by decide) ?_
        refine lv_aload_n hx hb dL_law_269 rfl (lv_at hl 1 rfl) ?_
        refine lv_aload_n hx hb dL_law_270 rfl (lv_at hl 0 rfl) ?_
        refine lv_iload_n hx hb dL_law_271 rfl (lv_at hl 3 rfl) ?_
        refine lv_iconst (v := 1) hx hb dL_law_272 (by decide) ?_
        refine lv_iadd hx hb dL_law_273 ?_
        refine va_sld hx hb hX hbl hbA hS v1 dL_law_274 ?_
        refine lv_aload_n hx hb dL_law_275 rfl (lv_at hl 0 rfl) ?_
        refine lv_iload_n hx hb dL_law_276 rfl (lv_at hl 3 rfl) ?_
        refine lv_iconst (v := 2) hx hb dL_law_277 (by decide) ?_
        refine lv_iadd hx hb dL_law_278 ?_
        refine va_sld hx hb hX hbl hbA hS v2 dL_law_279 ?_
        refine lv_aload_n hx hb dL_law_280 rfl (lv_at hl 0 rfl) ?_
        refine lv_iload_n hx hb dL_law_281 rfl (lv_at hl 3 rfl) ?_
        refine lv_iconst (v := 3) hx hb dL_law_282 (by decide) ?_
        refine lv_iadd hx hb dL_law_283 ?_
        refine va_sld hx hb hX hbl hbA hS v3 dL_law_284 ?_
        refine cf_wcallI (As := [.int (xs ((nI i) + 1).toNatClampNeg), .int (xs ((nI i) + 2).toNatClampNeg), .int (xs ((nI i) + 3).toNatClampNeg)]) (rest := []) (wc := cf_W 0 q0 q1 cA k md tm al ln od) (wr := cf_W 1 r0 r1 cB k md tm al ln od) (wF := cf_W 0 q0 q1 cA (cf_accK k md tm al ln (xs ((nI i) + 1).toNatClampNeg) (xs ((nI i) + 2).toNatClampNeg) (xs ((nI i) + 3).toNatClampNeg)) md tm al ln (cf_accO k md tm al ln od (xs ((nI i) + 1).toNatClampNeg) (xs ((nI i) + 2).toNatClampNeg))) ⟨hx, hb, hml, hown, hts⟩ (c_access l D z q0 q1 cA k md tm al ln od H.size (xs ((nI i) + 1).toNatClampNeg) (xs ((nI i) + 2).toNatClampNeg) (xs ((nI i) + 3).toNatClampNeg)) (cwV 3 hts gL_law_X0_access rfl rfl rfl (by decide +kernel) ⟨(Nat.le_of_ble_eq_true rfl), (Nat.le_of_ble_eq_true rfl)⟩) hP hD (hK.sub (tys' := [(cA, .int)]) [0] rfl) hZ hS hA (hP.sub [0, 1] rfl) [0, 1] [2, 3] rfl rfl rfl rfl (by decide) (ci := 0) (q0 := 0) rfl rfl rfl rfl hl.1 rfl (Nat.le_of_ble_eq_true rfl) dL_law_285 ⟨(Nat.le_of_ble_eq_true rfl), (Nat.le_of_ble_eq_true rfl)⟩ (fun H locs hP hD hS => ?_)
        have hP : va_P D vwCl (cf_W 1 r0 r1 cB k md tm al ln od ++ cf_W 0 q0 q1 cA (cf_accK k md tm al ln (xs ((nI i) + 1).toNatClampNeg) (xs ((nI i) + 2).toNatClampNeg) (xs ((nI i) + 3).toNatClampNeg)) md tm al ln (cf_accO k md tm al ln od (xs ((nI i) + 1).toNatClampNeg) (xs ((nI i) + 2).toNatClampNeg))) H := hP
        have hD : va_D (fun q : Nat => s.heap.size ≤ q) (cf_W 1 r0 r1 cB k md tm al ln od ++ cf_W 0 q0 q1 cA (cf_accK k md tm al ln (xs ((nI i) + 1).toNatClampNeg) (xs ((nI i) + 2).toNatClampNeg) (xs ((nI i) + 3).toNatClampNeg)) md tm al ln (cf_accO k md tm al ln od (xs ((nI i) + 1).toNatClampNeg) (xs ((nI i) + 2).toNatClampNeg))) := hD
        refine lv_aload_n hx hb dL_law_288 rfl (lv_at hl 2 rfl) ?_
        refine lv_aload_n hx hb dL_law_289 rfl (lv_at hl 0 rfl) ?_
        refine lv_iload_n hx hb dL_law_290 rfl (lv_at hl 3 rfl) ?_
        refine lv_iconst (v := 1) hx hb dL_law_291 (by decide) ?_
        refine lv_iadd hx hb dL_law_292 ?_
        refine va_sld hx hb hX hbl hbA hS v1 dL_law_293 ?_
        refine lv_aload_n hx hb dL_law_294 rfl (lv_at hl 0 rfl) ?_
        refine lv_iload_n hx hb dL_law_295 rfl (lv_at hl 3 rfl) ?_
        refine lv_iconst (v := 2) hx hb dL_law_296 (by decide) ?_
        refine lv_iadd hx hb dL_law_297 ?_
        refine va_sld hx hb hX hbl hbA hS v2 dL_law_298 ?_
        refine lv_aload_n hx hb dL_law_299 rfl (lv_at hl 0 rfl) ?_
        refine lv_iload_n hx hb dL_law_300 rfl (lv_at hl 3 rfl) ?_
        refine lv_iconst (v := 3) hx hb dL_law_301 (by decide) ?_
        refine lv_iadd hx hb dL_law_302 ?_
        refine va_sld hx hb hX hbl hbA hS v3 dL_law_303 ?_
        refine cf_wcallI (As := [.int (xs ((nI i) + 1).toNatClampNeg), .int (xs ((nI i) + 2).toNatClampNeg), .int (xs ((nI i) + 3).toNatClampNeg)]) (rest := [.int (cf_accR k md (xs ((nI i) + 1).toNatClampNeg) (xs ((nI i) + 2).toNatClampNeg))]) (wc := cf_W 1 r0 r1 cB k md tm al ln od) (wr := cf_W 0 q0 q1 cA (cf_accK k md tm al ln (xs ((nI i) + 1).toNatClampNeg) (xs ((nI i) + 2).toNatClampNeg) (xs ((nI i) + 3).toNatClampNeg)) md tm al ln (cf_accO k md tm al ln od (xs ((nI i) + 1).toNatClampNeg) (xs ((nI i) + 2).toNatClampNeg))) (wF := cf_W 1 r0 r1 cB (cf_accK k md tm al ln (xs ((nI i) + 1).toNatClampNeg) (xs ((nI i) + 2).toNatClampNeg) (xs ((nI i) + 3).toNatClampNeg)) md tm al ln (cf_accO k md tm al ln od (xs ((nI i) + 1).toNatClampNeg) (xs ((nI i) + 2).toNatClampNeg))) ⟨hx, hb, hml, hown, hts⟩ (mx_access l D z r0 r1 cB k md tm al ln od H.size (xs ((nI i) + 1).toNatClampNeg) (xs ((nI i) + 2).toNatClampNeg) (xs ((nI i) + 3).toNatClampNeg) hi) (cwV 3 hts gL_law_X1_access rfl rfl rfl (by decide +kernel) ⟨(Nat.le_of_ble_eq_true rfl), (Nat.le_of_ble_eq_true rfl)⟩) hP hD (hK.sub (tys' := [(cB, .int)]) [1] rfl) hZ hS hA (hP.sub [0, 1] rfl) [0, 1] [2, 3] rfl rfl rfl rfl (by decide) (ci := 1) (q0 := 0) rfl rfl rfl rfl hl.1 rfl (Nat.le_of_ble_eq_true rfl) dL_law_304 ⟨(Nat.le_of_ble_eq_true rfl), (Nat.le_of_ble_eq_true rfl)⟩ (fun H locs hP hD hS => ?_)
        have hP : va_P D vwCl (cf_W 0 q0 q1 cA (cf_accK k md tm al ln (xs ((nI i) + 1).toNatClampNeg) (xs ((nI i) + 2).toNatClampNeg) (xs ((nI i) + 3).toNatClampNeg)) md tm al ln (cf_accO k md tm al ln od (xs ((nI i) + 1).toNatClampNeg) (xs ((nI i) + 2).toNatClampNeg)) ++ cf_W 1 r0 r1 cB (cf_accK k md tm al ln (xs ((nI i) + 1).toNatClampNeg) (xs ((nI i) + 2).toNatClampNeg) (xs ((nI i) + 3).toNatClampNeg)) md tm al ln (cf_accO k md tm al ln od (xs ((nI i) + 1).toNatClampNeg) (xs ((nI i) + 2).toNatClampNeg))) H := hP
        have hD : va_D (fun q : Nat => s.heap.size ≤ q) (cf_W 0 q0 q1 cA (cf_accK k md tm al ln (xs ((nI i) + 1).toNatClampNeg) (xs ((nI i) + 2).toNatClampNeg) (xs ((nI i) + 3).toNatClampNeg)) md tm al ln (cf_accO k md tm al ln od (xs ((nI i) + 1).toNatClampNeg) (xs ((nI i) + 2).toNatClampNeg)) ++ cf_W 1 r0 r1 cB (cf_accK k md tm al ln (xs ((nI i) + 1).toNatClampNeg) (xs ((nI i) + 2).toNatClampNeg) (xs ((nI i) + 3).toNatClampNeg)) md tm al ln (cf_accO k md tm al ln od (xs ((nI i) + 1).toNatClampNeg) (xs ((nI i) + 2).toNatClampNeg))) := hD
        refine lv_icmp_eq (tgt := 374) hx hb dL_law_307 (by decide) (fun c_10 => ?_) (fun c_10 => ?_)
        · skip
          exact nxt (cf_accK k md tm al ln (xs ((nI i) + 1).toNatClampNeg) (xs ((nI i) + 2).toNatClampNeg) (xs ((nI i) + 3).toNatClampNeg)) md tm al ln (cf_accO k md tm al ln od (xs ((nI i) + 1).toNatClampNeg) (xs ((nI i) + 2).toNatClampNeg)) H locs (cf_accK_eq hi md tm al ln (xs ((nI i) + 1).toNatClampNeg) (xs ((nI i) + 2).toNatClampNeg) (xs ((nI i) + 3).toNatClampNeg)).2 hln hP hD hS
        · skip
          exact absurd rfl c_10
      · skip
        refine lv_tableIn (off := 280) (tgt := 312) hx hb dL_law_32 (by decide) (by decide) rfl (by decide) ?_
        refine lv_aload_n hx hb dL_law_312 rfl (lv_at hl 1 rfl) ?_
        refine cf_callV (As := []) (rest := []) (wc := cf_W 0 q0 q1 cA k md tm al ln od) ⟨hx, hb, hml, hown, hts⟩ (c_old l D z q0 q1 cA k md tm al ln od) (cwV 0 hts gL_law_X0_old rfl rfl rfl (by decide +kernel) ⟨(Nat.le_of_ble_eq_true rfl), (Nat.le_of_ble_eq_true rfl)⟩) (hP.sub [0, 1] rfl) (hK.sub (tys' := [(cA, .int)]) [0] rfl) hZ hS (ci := 0) (q0 := 0) rfl rfl rfl rfl hl.1 rfl (Nat.le_of_ble_eq_true rfl) dL_law_313 ⟨(Nat.le_of_ble_eq_true rfl), (Nat.le_of_ble_eq_true rfl)⟩ ?_
        refine lv_aload_n hx hb dL_law_316 rfl (lv_at hl 2 rfl) ?_
        refine cf_callV (As := []) (rest := [.int od]) (wc := cf_W 1 r0 r1 cB k md tm al ln od) ⟨hx, hb, hml, hown, hts⟩ (m_old l D z r0 r1 cB k md tm al ln od) (cwV 0 hts gL_law_X1_old rfl rfl rfl (by decide +kernel) ⟨(Nat.le_of_ble_eq_true rfl), (Nat.le_of_ble_eq_true rfl)⟩) (hP.sub [2, 3] rfl) (hK.sub (tys' := [(cB, .int)]) [1] rfl) hZ hS (ci := 1) (q0 := 0) rfl rfl rfl rfl hl.1 rfl (Nat.le_of_ble_eq_true rfl) dL_law_317 ⟨(Nat.le_of_ble_eq_true rfl), (Nat.le_of_ble_eq_true rfl)⟩ ?_
        refine lv_icmp_eq (tgt := 374) hx hb dL_law_320 (by decide) (fun c_11 => ?_) (fun c_11 => ?_)
        · skip
          exact nxt k md tm al ln od H locs hi hln hP hD hS
        · skip
          exact absurd rfl c_11
      · skip
        refine lv_tableIn (off := 293) (tgt := 325) hx hb dL_law_32 (by decide) (by decide) rfl (by decide) ?_
        refine lv_aload_n hx hb dL_law_325 rfl (lv_at hl 1 rfl) ?_
        refine lv_aload_n hx hb dL_law_326 rfl (lv_at hl 0 rfl) ?_
        refine lv_iload_n hx hb dL_law_327 rfl (lv_at hl 3 rfl) ?_
        refine lv_iconst (v := 1) hx hb dL_law_328 (by decide) ?_
        refine lv_iadd hx hb dL_law_329 ?_
        refine va_sld hx hb hX hbl hbA hS v1 dL_law_330 ?_
        refine cf_callV (As := [.int (xs ((nI i) + 1).toNatClampNeg)]) (rest := []) (wc := cf_W 0 q0 q1 cA k md tm al ln od) ⟨hx, hb, hml, hown, hts⟩ (c_control l D z q0 q1 cA k md tm al ln od (xs ((nI i) + 1).toNatClampNeg)) (cwV 1 hts gL_law_X0_control rfl rfl rfl (by decide +kernel) ⟨(Nat.le_of_ble_eq_true rfl), (Nat.le_of_ble_eq_true rfl)⟩) (hP.sub [0, 1] rfl) (hK.sub (tys' := [(cA, .int)]) [0] rfl) hZ hS (ci := 0) (q0 := 0) rfl rfl rfl rfl hl.1 rfl (Nat.le_of_ble_eq_true rfl) dL_law_331 ⟨(Nat.le_of_ble_eq_true rfl), (Nat.le_of_ble_eq_true rfl)⟩ ?_
        refine lv_aload_n hx hb dL_law_334 rfl (lv_at hl 2 rfl) ?_
        refine lv_aload_n hx hb dL_law_335 rfl (lv_at hl 0 rfl) ?_
        refine lv_iload_n hx hb dL_law_336 rfl (lv_at hl 3 rfl) ?_
        refine lv_iconst (v := 1) hx hb dL_law_337 (by decide) ?_
        refine lv_iadd hx hb dL_law_338 ?_
        refine va_sld hx hb hX hbl hbA hS v1 dL_law_339 ?_
        refine cf_callV (As := [.int (xs ((nI i) + 1).toNatClampNeg)]) (rest := [.int (cf_told k tm al ln (cf_slot (xs ((nI i) + 1).toNatClampNeg)))]) (wc := cf_W 1 r0 r1 cB k md tm al ln od) ⟨hx, hb, hml, hown, hts⟩ (mx_control l D z r0 r1 cB k md tm al ln od (xs ((nI i) + 1).toNatClampNeg) hi) (cwV 1 hts gL_law_X1_control rfl rfl rfl (by decide +kernel) ⟨(Nat.le_of_ble_eq_true rfl), (Nat.le_of_ble_eq_true rfl)⟩) (hP.sub [2, 3] rfl) (hK.sub (tys' := [(cB, .int)]) [1] rfl) hZ hS (ci := 1) (q0 := 0) rfl rfl rfl rfl hl.1 rfl (Nat.le_of_ble_eq_true rfl) dL_law_340 ⟨(Nat.le_of_ble_eq_true rfl), (Nat.le_of_ble_eq_true rfl)⟩ ?_
        refine lv_icmp_eq (tgt := 374) hx hb dL_law_343 (by decide) (fun c_12 => ?_) (fun c_12 => ?_)
        · skip
          exact nxt k md tm al ln od H locs hi hln hP hD hS
        · skip
          exact absurd rfl c_12
      · skip
        refine lv_tableIn (off := 316) (tgt := 348) hx hb dL_law_32 (by decide) (by decide) rfl (by decide) ?_
        refine lv_aload_n hx hb dL_law_348 rfl (lv_at hl 1 rfl) ?_
        refine cf_callV (As := []) (rest := []) (wc := cf_W 0 q0 q1 cA k md tm al ln od) ⟨hx, hb, hml, hown, hts⟩ (c_used l D z q0 q1 cA k md tm al ln od) (cwV 0 hts gL_law_X0_used rfl rfl rfl (by decide +kernel) ⟨(Nat.le_of_ble_eq_true rfl), (Nat.le_of_ble_eq_true rfl)⟩) (hP.sub [0, 1] rfl) (hK.sub (tys' := [(cA, .int)]) [0] rfl) hZ hS (ci := 0) (q0 := 0) rfl rfl rfl rfl hl.1 rfl (Nat.le_of_ble_eq_true rfl) dL_law_349 ⟨(Nat.le_of_ble_eq_true rfl), (Nat.le_of_ble_eq_true rfl)⟩ ?_
        refine lv_aload_n hx hb dL_law_352 rfl (lv_at hl 2 rfl) ?_
        refine cf_callV (As := []) (rest := [.int (cf_used k tm al ln)]) (wc := cf_W 1 r0 r1 cB k md tm al ln od) ⟨hx, hb, hml, hown, hts⟩ (mx_used l D z r0 r1 cB k md tm al ln od hi) (cwV 0 hts gL_law_X1_used rfl rfl rfl (by decide +kernel) ⟨(Nat.le_of_ble_eq_true rfl), (Nat.le_of_ble_eq_true rfl)⟩) (hP.sub [2, 3] rfl) (hK.sub (tys' := [(cB, .int)]) [1] rfl) hZ hS (ci := 1) (q0 := 0) rfl rfl rfl rfl hl.1 rfl (Nat.le_of_ble_eq_true rfl) dL_law_353 ⟨(Nat.le_of_ble_eq_true rfl), (Nat.le_of_ble_eq_true rfl)⟩ ?_
        refine lv_icmp_eq (tgt := 374) hx hb dL_law_356 (by decide) (fun c_13 => ?_) (fun c_13 => ?_)
        · skip
          exact nxt k md tm al ln od H locs hi hln hP hD hS
        · skip
          exact absurd rfl c_13
      · skip
        refine lv_tableIn (off := 329) (tgt := 361) hx hb dL_law_32 (by decide) (by decide) rfl (by decide) ?_
        refine lv_aload_n hx hb dL_law_361 rfl (lv_at hl 1 rfl) ?_
        refine cf_callV (As := []) (rest := []) (wc := cf_W 0 q0 q1 cA k md tm al ln od) ⟨hx, hb, hml, hown, hts⟩ (c_due l D z q0 q1 cA k md tm al ln od) (cwV 0 hts gL_law_X0_due rfl rfl rfl (by decide +kernel) ⟨(Nat.le_of_ble_eq_true rfl), (Nat.le_of_ble_eq_true rfl)⟩) (hP.sub [0, 1] rfl) (hK.sub (tys' := [(cA, .int)]) [0] rfl) hZ hS (ci := 0) (q0 := 0) rfl rfl rfl rfl hl.1 rfl (Nat.le_of_ble_eq_true rfl) dL_law_362 ⟨(Nat.le_of_ble_eq_true rfl), (Nat.le_of_ble_eq_true rfl)⟩ ?_
        refine lv_aload_n hx hb dL_law_365 rfl (lv_at hl 2 rfl) ?_
        refine cf_callV (As := []) (rest := [.int (cf_due k md tm al ln)]) (wc := cf_W 1 r0 r1 cB k md tm al ln od) ⟨hx, hb, hml, hown, hts0⟩ (mx_due l D z r0 r1 cB k md tm al ln od hi) (cwV 0 hts0 gL_law_X1_due rfl rfl rfl (by decide +kernel) ⟨(Nat.le_of_ble_eq_true rfl), (Nat.le_of_ble_eq_true rfl)⟩) (hP.sub [2, 3] rfl) (hK.sub (tys' := [(cB, .int)]) [1] rfl) hZ hS (ci := 1) (q0 := 0) rfl rfl rfl rfl hl.1 rfl (Nat.le_of_ble_eq_true rfl) dL_law_366 ⟨(Nat.le_of_ble_eq_true rfl), (Nat.le_of_ble_eq_true rfl)⟩ ?_
        refine lv_icmp_eq (tgt := 374) hx hb dL_law_369 (by decide) (fun c_14 => ?_) (fun c_14 => ?_)
        · skip
          exact nxt k md tm al ln od H locs hi hln hP hD hS
        · skip
          exact absurd rfl c_14
      · skip
        refine lv_tableOut (tgt := 374) hx hb dL_law_32 (Or.inr (by decide)) (by decide) ?_
        exact nxt k md tm al ln od H locs hi hln hP hD hS
      · skip
        refine lv_tableOut (tgt := 374) hx hb dL_law_32 (Or.inr (by decide)) (by decide) ?_
        exact nxt k md tm al ln od H locs hi hln hP hD hS
      · skip
        refine lv_tableOut (tgt := 374) hx hb dL_law_32 (Or.inr (by decide)) (by decide) ?_
        exact nxt k md tm al ln od H locs hi hln hP hD hS
      · skip
        refine lv_tableOut (tgt := 374) hx hb dL_law_32 (Or.inr (by decide)) (by decide) ?_
        exact nxt k md tm al ln od H locs hi hln hP hD hS
      · skip
        refine lv_tableOut (tgt := 374) hx hb dL_law_32 (Or.inr (by decide)) (by decide) ?_
        exact nxt k md tm al ln od H locs hi hln hP hD hS
      · skip
        refine lv_tableOut (tgt := 374) hx hb dL_law_32 (Or.inr (by decide)) (by decide) ?_
        exact nxt k md tm al ln od H locs hi hln hP hD hS
end
section
set_option maxHeartbeats 4000000 in
set_option maxRecDepth 100000 in
/-- THE LAW, from its entry -/
theorem whole_start {p : Program} {e : Env} {s : State} {m : MethodId} {below : List Frame} {meth : Method} {c : Code} (l : Launch) {b L : Nat} {xs : Nat → Int32} (hL : L ≤ 2048) (C0 : lw_At p s m meth c b L xs) : W p l e room_1 s m #[Value.ref b] below meth c s.heap [] 0 0 (lw_Z below #[Value.ref b] s) (entryFrame m ([Value.ref b] : List Value).toArray 4) := by
  obtain ⟨hx, hb, hr, hml, hown, hts0, hX, hbl, hlocks, hgv⟩ := id C0
  have hts : ∀ w ∈ wsL_law, w.before #[Value.ref b] s = true := fun w h => hts0 w (wsL_law_in w h)
  have hA : ∀ q : Nat, s.heap.size ≤ q → (fun q : Nat => s.heap.size ≤ q) q := fun _ h => h
  have hbA : ¬ (fun q : Nat => s.heap.size ≤ q) b := Nat.not_le.mpr hbl
  obtain ⟨c0, iS0, hKn0⟩ := u_known (C := RX0) (T := TX0) (N := 6) (n := 6) hts0 inX0 (hts0 (.instantiable RX0 6) (by decide +kernel))
  obtain ⟨c1, iS1, hKn1⟩ := u_known (C := RX1) (T := TX1) (N := 6) (n := 6) hts0 inX1 (hts0 (.instantiable RX1 6) (by decide +kernel))
  obtain ⟨D, hKc⟩ : ∃ D : va_G, ∀ (k : Nat) (q : vw_C), vwCl[k]? = some q → u_Kn s q.1 q.2.1 q.2.2 (D.1 k) (D.2 k) := by
    refine ⟨(fun k => if k = 0 then c0 else c1, fun k => if k = 0 then iS0 else iS1), ?_⟩
    intro k q hq
    match k, hq with
    | 0, hq => cases hq; exact hKn0
    | 1, hq => cases hq; exact hKn1
    | k + 2, hq => simp [vwCl] at hq
  have hs := flat_of_before _ hgv
  have hA0 : ∀ a : Nat, a < s.heap.size → ¬ (fun q : Nat => s.heap.size ≤ q) a := fun a h => Nat.not_le.mpr h
  have m0 : ∀ j, j < 29 → Cond.eq (.elem (.static "ControlFile" "NUMBERS" "[I") (.int (Int32.ofNat j))) (.int (cf_num j)) ∈ flatC (Jvm.Cond.and given_1 narrow_1) := by decide +kernel
  obtain ⟨t0, e0, T0⟩ := va_Tof (tm := (.static "ControlFile" "NUMBERS" "[I")) (ty := .int) (N := 29) (f := fun j => .int (cf_num j)) (A := (fun q : Nat => s.heap.size ≤ q)) (by decide) (hs (.arrayOf (.static "ControlFile" "NUMBERS" "[I") .int) (by decide +kernel)) (va_eqt (z := 29) (hs (.eq (.length (.static "ControlFile" "NUMBERS" "[I")) (.int 29)) (by decide +kernel))) (fun j hj => va_eqt (hs _ (m0 j hj))) hA0
  have Z0 := va_Zref (hts0 (.laysStatic "ControlFile" "NUMBERS" "[I") (by decide +kernel)) (hts0 (.initialized "ControlFile") (by decide +kernel)) e0 hA0
  have m1 : ∀ j, j < 29 → Cond.eq (.elem (.static "ControlFile" "KEEPS" "[I") (.int (Int32.ofNat j))) (.int (cf_keep j)) ∈ flatC (Jvm.Cond.and given_1 narrow_1) := by decide +kernel
  obtain ⟨t1, e1, T1⟩ := va_Tof (tm := (.static "ControlFile" "KEEPS" "[I")) (ty := .int) (N := 29) (f := fun j => .int (cf_keep j)) (A := (fun q : Nat => s.heap.size ≤ q)) (by decide) (hs (.arrayOf (.static "ControlFile" "KEEPS" "[I") .int) (by decide +kernel)) (va_eqt (z := 29) (hs (.eq (.length (.static "ControlFile" "KEEPS" "[I")) (.int 29)) (by decide +kernel))) (fun j hj => va_eqt (hs _ (m1 j hj))) hA0
  have Z1 := va_Zref (hts0 (.laysStatic "ControlFile" "KEEPS" "[I") (by decide +kernel)) (hts0 (.initialized "ControlFile") (by decide +kernel)) e1 hA0
  have m2 : ∀ j, j < 6 → Cond.eq (.elem (.static "ControlFile" "S_ORDER" "[I") (.int (Int32.ofNat j))) (.int (cf_so j)) ∈ flatC (Jvm.Cond.and given_1 narrow_1) := by decide +kernel
  obtain ⟨t2, e2, T2⟩ := va_Tof (tm := (.static "ControlFile" "S_ORDER" "[I")) (ty := .int) (N := 6) (f := fun j => .int (cf_so j)) (A := (fun q : Nat => s.heap.size ≤ q)) (by decide) (hs (.arrayOf (.static "ControlFile" "S_ORDER" "[I") .int) (by decide +kernel)) (va_eqt (z := 6) (hs (.eq (.length (.static "ControlFile" "S_ORDER" "[I")) (.int 6)) (by decide +kernel))) (fun j hj => va_eqt (hs _ (m2 j hj))) hA0
  have Z2 := va_Zref (hts0 (.laysStatic "ControlFile" "S_ORDER" "[I") (by decide +kernel)) (hts0 (.initialized "ControlFile") (by decide +kernel)) e2 hA0
  have m3 : ∀ j, j < 3 → Cond.eq (.elem (.static "ControlFile" "VS_ORDER" "[I") (.int (Int32.ofNat j))) (.int (cf_vo j)) ∈ flatC (Jvm.Cond.and given_1 narrow_1) := by decide +kernel
  obtain ⟨t3, e3, T3⟩ := va_Tof (tm := (.static "ControlFile" "VS_ORDER" "[I")) (ty := .int) (N := 3) (f := fun j => .int (cf_vo j)) (A := (fun q : Nat => s.heap.size ≤ q)) (by decide) (hs (.arrayOf (.static "ControlFile" "VS_ORDER" "[I") .int) (by decide +kernel)) (va_eqt (z := 3) (hs (.eq (.length (.static "ControlFile" "VS_ORDER" "[I")) (.int 3)) (by decide +kernel))) (fun j hj => va_eqt (hs _ (m3 j hj))) hA0
  have Z3 := va_Zref (hts0 (.laysStatic "ControlFile" "VS_ORDER" "[I") (by decide +kernel)) (hts0 (.initialized "ControlFile") (by decide +kernel)) e3 hA0
  obtain ⟨z, hZ⟩ : ∃ z : Nat → Nat, cf_stat (fun q : Nat => s.heap.size ≤ q) z s s.heap := ⟨fun j => if j = 0 then t0 else if j = 1 then t1 else if j = 2 then t2 else t3, ⟨Z0, T0⟩, ⟨Z1, T1⟩, ⟨Z2, T2⟩, ⟨Z3, T3⟩⟩
  have hS : va_S (fun q : Nat => s.heap.size ≤ q) s.heap s.heap [] := va_S.rf
  have hK : va_K D vwCl [] s := ⟨hKc, fun k q h => by simp at h⟩
  have hP : va_P D vwCl [] s.heap := fun k q h => by simp at h
  have hD : va_D (fun q : Nat => s.heap.size ≤ q) [] := ⟨fun i j p q h => by simp at h, fun k q h => by simp at h⟩
  have hl := lv_entry ([.ref b]) (n := 4) (Nat.le_of_ble_eq_true rfl)
  rw [lg_entry_eq]
  generalize (lg_sl ([.ref b]) ++ List.replicate (4 - (lg_sl ([.ref b])).length) Slot.unset).toArray = ls at hl ⊢
  have hl : lv_has ls 4 [(0, .ref b)] := hl
  refine va_new (ci := 0) (fs := [.null, .int 0, .long 0, .long 0, .int 0, .int 0]) (C := RX0) (T := TX0) (N := 6) hx hb hts0 inX0 tyX0 tyX0_ok hown (hts0 (.classLink RL 7 RX0) (by decide +kernel)) (hts0 (.instantiable RX0 6) (by decide +kernel)) (hts0 (.initialized RX0) (by decide +kernel)) hK hP hD hS hA rfl (fun j hj => by rcases (show j = 0 ∨ j = 1 ∨ j = 2 ∨ j = 3 ∨ j = 4 ∨ j = 5 by omega) with rfl | rfl | rfl | rfl | rfl | rfl <;> rfl) (Nat.le_of_ble_eq_true rfl) (Nat.le_of_ble_eq_true rfl) dL_law_0 (fun q0 H hP hD hS => ?_)
  have hP : va_P D vwCl ([(q0, .inr (0, [.null, .int 0, .long 0, .long 0, .int 0, .int 0]))]) H := hP
  have hD : va_D (fun q : Nat => s.heap.size ≤ q) ([(q0, .inr (0, [.null, .int 0, .long 0, .long 0, .int 0, .int 0]))]) := hD
  refine W.widen (k := 1) (n := 6) (by omega) (by omega) ?_
  refine lv_dup hx hb dL_law_3 rfl ?_
  refine cf_icall (WN := fun u => cf_W 0 q0 u.1 u.2 (cf_fill (fun _ => 0) 0 29) 1 0 9223372036854775807 0 0) (As := []) (rest := [.ref q0]) (wc := [(q0, .inr (0, [.null, .int 0, .long 0, .long 0, .int 0, .int 0]))]) (wr := []) ⟨hx, hb, hml, hown, hts⟩ (c_init l D z q0 H.size) (cwI 0 hts gL_law_X0_init rfl rfl rfl (hts0 (.initialized RX0) (by decide +kernel)) (hts0 (.methodLink RL 9 yX0_init) (by decide +kernel)) (hts0 (.instanceMethod yX0_init) (by decide +kernel)) rfl (by decide +kernel) ⟨(Nat.le_of_ble_eq_true rfl), (Nat.le_of_ble_eq_true rfl)⟩) hP hD hK hZ hS hA (hP.sub [0] rfl) [0] [] rfl rfl rfl rfl (by decide) rfl hl.1 rfl (Nat.le_of_ble_eq_true rfl) dL_law_4 ⟨(Nat.le_of_ble_eq_true rfl), (Nat.le_of_ble_eq_true rfl)⟩ (fun q1 cA H locs hP hD hK hS => ?_)
  refine W.widen (k := 2) (n := 35) (by omega) (by omega) ?_
  have hP : va_P D vwCl (cf_W 0 q0 q1 cA (cf_fill (fun _ => 0) 0 29) 1 0 9223372036854775807 0 0) H := hP
  have hD : va_D (fun q : Nat => s.heap.size ≤ q) (cf_W 0 q0 q1 cA (cf_fill (fun _ => 0) 0 29) 1 0 9223372036854775807 0 0) := hD
  have hK : va_K D vwCl [(cA, .int)] s := hK
  refine lv_astore_n (lv' := [(1, .ref q0), (0, .ref b)]) hx hb dL_law_7 rfl hl (by decide) rfl (fun ls hl => ?_)
  refine va_new (ci := 1) (fs := [.null, .int 0, .long 0, .long 0, .int 0, .int 0]) (C := RX1) (T := TX1) (N := 6) hx hb hts0 inX1 tyX1 tyX1_ok hown (hts0 (.classLink RL 10 RX1) (by decide +kernel)) (hts0 (.instantiable RX1 6) (by decide +kernel)) (hts0 (.initialized RX1) (by decide +kernel)) hK hP hD hS hA rfl (fun j hj => by rcases (show j = 0 ∨ j = 1 ∨ j = 2 ∨ j = 3 ∨ j = 4 ∨ j = 5 by omega) with rfl | rfl | rfl | rfl | rfl | rfl <;> rfl) (Nat.le_of_ble_eq_true rfl) (Nat.le_of_ble_eq_true rfl) dL_law_8 (fun r0 H hP hD hS => ?_)
  have hP : va_P D vwCl (cf_W 0 q0 q1 cA (cf_fill (fun _ => 0) 0 29) 1 0 9223372036854775807 0 0 ++ [(r0, .inr (1, [.null, .int 0, .long 0, .long 0, .int 0, .int 0]))]) H := hP
  have hD : va_D (fun q : Nat => s.heap.size ≤ q) (cf_W 0 q0 q1 cA (cf_fill (fun _ => 0) 0 29) 1 0 9223372036854775807 0 0 ++ [(r0, .inr (1, [.null, .int 0, .long 0, .long 0, .int 0, .int 0]))]) := hD
  refine W.widen (k := 3) (n := 41) (by omega) (by omega) ?_
  refine lv_dup hx hb dL_law_11 rfl ?_
  refine cf_icall (WN := fun u => cf_W 1 r0 u.1 u.2 (cf_fill (fun _ => 0) 0 29) 1 0 9223372036854775807 0 0) (As := []) (rest := [.ref r0]) (wc := [(r0, .inr (1, [.null, .int 0, .long 0, .long 0, .int 0, .int 0]))]) (wr := (cf_W 0 q0 q1 cA (cf_fill (fun _ => 0) 0 29) 1 0 9223372036854775807 0 0)) ⟨hx, hb, hml, hown, hts⟩ (m_init l D z r0 H.size) (cwI 0 hts gL_law_X1_init rfl rfl rfl (hts0 (.initialized RX1) (by decide +kernel)) (hts0 (.methodLink RL 12 yX1_init) (by decide +kernel)) (hts0 (.instanceMethod yX1_init) (by decide +kernel)) rfl (by decide +kernel) ⟨(Nat.le_of_ble_eq_true rfl), (Nat.le_of_ble_eq_true rfl)⟩) hP hD hK hZ hS hA (hP.sub [2] rfl) [2] [0, 1] rfl rfl rfl rfl (by decide) rfl hl.1 rfl (Nat.le_of_ble_eq_true rfl) dL_law_12 ⟨(Nat.le_of_ble_eq_true rfl), (Nat.le_of_ble_eq_true rfl)⟩ (fun r1 cB H locs hP hD hK hS => ?_)
  refine W.widen (k := 4) (n := 70) (by omega) (by omega) ?_
  have hP : va_P D vwCl (cf_L q0 q1 cA r0 r1 cB (cf_fill (fun _ => 0) 0 29) 1 0 9223372036854775807 0 0) H := hP
  have hD : va_D (fun q : Nat => s.heap.size ≤ q) (cf_L q0 q1 cA r0 r1 cB (cf_fill (fun _ => 0) 0 29) 1 0 9223372036854775807 0 0) := hD
  have hK : va_K D vwCl [(cA, .int), (cB, .int)] s := hK
  refine lv_astore_n (lv' := [(2, .ref r0), (1, .ref q0), (0, .ref b)]) hx hb dL_law_15 rfl hl (by decide) rfl (fun ls hl => ?_)
  refine lv_iconst (v := 0) hx hb dL_law_16 (by decide) ?_
  refine lv_istore_n (lv' := [(3, .int 0), (2, .ref r0), (1, .ref q0), (0, .ref b)]) hx hb dL_law_17 rfl hl (by decide) rfl (fun ls hl => ?_)
  exact law_loop hL C0 q0 q1 r0 r1 cA cB hK hZ (L + 1) 0 (Nat.zero_le L) (by omega) (cf_fill (fun _ => 0) 0 29) 1 0 9223372036854775807 0 0 H locs (cf_inv_fill _) (Or.inl rfl) hP hD hS ls (lv_sub hl [3, 2, 1, 0] rfl)
end
section
-- ===== YOUR PART ENDS =====
set_option maxHeartbeats 4000000 in
theorem lw_walk (l : Launch) (b : Addr) (xs : List Int32) : MetFree l x (headSpec (Jvm.Cond.code x code maxLocals ret :: tables_1) room_1) (lw_P b xs) (fun _ _ _ _ _ => True) lw_Q := by
  refine MetFree.of_bodyS (code := code) (maxLocals := maxLocals) (ret := ret) (by decide) ?_ ?_
  · intro args s m h hn
    obtain ⟨meth, c, h1, h2, h3, h4, h5, h6, -, -⟩ := Cond.code_spec hn (atoms_spec (ws := Jvm.Cond.code x code maxLocals ret :: tables_1) h _ List.mem_cons_self)
    exact ⟨meth, c, h1, h2, h3, h4, h5, h6⟩
  · intro p e s m args below meth c s₁ B hml0 hP _
    obtain ⟨rfl, hx, hbd, hgv⟩ := hP
    obtain ⟨scr, harrAt, hlist, hof, hsmall⟩ := hx
    obtain ⟨hcb, hkn, -, -⟩ := State.arrayAt?_spec harrAt
    have hown : s.vm.findClass R_law = some m.cls := findClass_of_methodNamed B.named
    have hts0 : ∀ c ∈ (Jvm.Cond.code x code maxLocals ret :: tables_1), c.before #[Value.ref b] s = true := atoms_spec (ws := Jvm.Cond.code x code maxLocals ret :: tables_1) B.pre
    have hts : ∀ w ∈ lw_tbl, w.before #[Value.ref b] s = true := k2_hts_sels lw_privs (fun w hw => hts0 w (List.mem_cons_of_mem _ hw)) lw_privs_ok
    have hml : c.maxLocals = 4 := B.maxLocals_eq (hts0 _ List.mem_cons_self)
    have X₀ : Stand p l e room_1 s m #[Value.ref b] below meth c s₁ [] 0 0 := Stand.of_body B
    have hh0 : s₁.heap = s.heap := by rw [B.state]; rfl
    have hsz : scr.slots.size = xs.length := by rw [← Array.length_toList, hlist, List.length_map]
    have hval : ∀ j : Nat, j < xs.length → scr.slots[j]? = some (.int (xs.getD j 0)) := fun j hj => by
      rw [← Array.getElem?_toList, hlist]
      simp [hj]
    have hbl : b < s.heap.size := (Array.getElem?_eq_some_iff.mp hcb).1
    have hX : va_X b xs.length (fun j => xs.getD j 0) s s.heap := ⟨scr, hcb, hof, hkn, hsz, hval⟩
    have K : W p l e room_1 s m #[Value.ref b] below meth c s₁.heap [] 0 0 (lw_Z below #[Value.ref b] s) (entryFrame m ([Value.ref b] : List Value).toArray 4) := by
      rw [hh0]
      exact whole_start l hbd ⟨B.exec, B.bytes, B.returns, hml, hown, hts, hX, hbl, B.notSynchronized, hgv⟩
    obtain ⟨t, a1, o, b1, b2, b3⟩ := K s₁ rfl X₀
    exact ⟨t, o, a1, b1, b2, b3⟩
theorem lw_pre_spec {args : Array Value} {s : State} (h : (Jvm.Cond.and given_1 narrow_1).before args s = true) (hr : rest_1_c.before args s = true) : ∃ (b : Addr) (xs : List Int32), lw_P b xs args s := by
  have hs := flat_of_before _ h
  have hq := flat_of_before _ hr
  have hc : (Cond.count 1).before args s = true := hs _ (by decide +kernel)
  have harr : (Cond.arrayOf (.arg 0) .int).before args s = true := hs _ (by decide +kernel)
  have hle : (Cond.le (.length (.arg 0)) (.int 2048)).before args s = true := hs _ (by decide +kernel)
  have hlen : (Cond.isInt (.length (.arg 0))).before args s = true := hq _ (by decide +kernel)
  have hall : (Cond.all (.arg 0) (.isInt (.elem (.arg 0) (.index 0)))).before args s = true := hq _ (by decide +kernel)
  obtain ⟨b, xs, hb, hx⟩ := State.ints_of_pre rfl harr hlen hall
  have hsm : xs.length < 2 ^ 31 := hx.choose_spec.2.2.2
  have hev : (Term.length (.arg 0)).eval args s none [] s = some (.int xs.length.toInt32) := hx.length_eval hb
  have hv := Cond.le_ints hev (show (Term.int 2048).eval args s none [] s = some (.int 2048) from rfl)
  have hd : xs.length.toInt32 ≤ 2048 := by
    simpa [Cond.before, Cond.holds, hv] using hle
  have hN : xs.length ≤ 2048 := (Int32.ofNat_le_ofNat hsm (by decide)).mp (show Int32.ofNat xs.length ≤ Int32.ofNat 2048 from hd)
  exact ⟨b, xs, Cond.one_arg hc (show args[0]? = some (.ref b) from hb), hx, hN, h⟩
theorem lw_comes (l : Launch) : Comes l x (Jvm.Cond.code x code maxLocals ret :: tables_1) room_1 (fun tb e args s => Calls_1 tb e args s ∧ rest_1 tb e args s ∧ Pre_1 tb e args s)
    (fun _ _ args s o t => lw_Q args s o t) := by
  intro p e ha hc hk s m args below hf hfit hheap happ hpre
  obtain ⟨b, xs, hP⟩ := lw_pre_spec hpre.2.2 hpre.2.1
  obtain ⟨k, o, h1, h2, h3, hQ⟩ := lw_walk l b xs p e ha hc hk s m args below hf ((Spec.applies_iff_loose hf).mp happ).1 hP trivial
  exact ⟨k, o, h1, h2, h3, hQ⟩
theorem lw_frame {s t : State} {o : Outcome} {args : Array Value} (h : Framed s o t [] 4 70) :
    Framed s o t (fieldLocs frame_1_writes args s ++ arrayLocs frame_1_arrays args s ++ staticLocs frame_1_statics s) 4 70 := h
theorem lw_limb (L : Cond) (hL : ∀ (args : Array Value) (s t : State), L.after args s (.returned (some (.int 1))) t = true) :
    ArmFor flags0 classFile x code maxLocals ret World_1 tables_1 room_1 Calls_1 rest_1 Pre_1
      (fun tb e a s o t => postC L tb e a s o t ∧ Framed s o t (fieldLocs frame_1_writes a s ++ arrayLocs frame_1_arrays a s ++ staticLocs frame_1_statics s) 4 70) := by
  intro l _ _ _ p e ha hc hk s m args below hf hfit hheap happ hpre
  obtain ⟨k, o, h1, h2, h3, rfl, hF⟩ := lw_comes l p e ha hc hk s m args below hf hfit hheap happ hpre
  exact ⟨k, _, h1, h2, h3, hL args s _, lw_frame hF⟩
theorem i_vc : Claimed_1_1 ∧ Claimed_1_2 := ⟨lw_limb limb_1_1 (fun args s t => by simp [limb_1_1, Cond.after, Cond.holds, Cond.value]), lw_limb limb_1_2 (fun args s t => Cond.after_iff.mpr (by
  first | (rw [show limb_1_2 = Cond.eq .result (.int 1) from rfl, Cond.eq_ints (x := 1) (y := 1) rfl rfl]; simp; done) | (simp [limb_1_2, Cond.value, Term.eval]; done)))⟩
end
