-- ===== PART A: goes FIRST, ahead of the names: the tables' words, and 'selects' of the private methods out of them =====
/-- a private method of a class that the tables say can be made, by its rows of tables_1 -/
def lw_okq (q : MethodName × Nat) : Prop := (q.1.cls ≠ "java/lang/invoke/MethodHandle" ∧ q.1.cls ≠ "java/lang/invoke/VarHandle") ∧ Cond.instantiable q.1.cls q.2 ∈ tables_1 ∧ Cond.privateMethod q.1 ∈ tables_1 ∧ Cond.instanceMethod q.1 ∈ tables_1
theorem lw_p0 : lw_okq (⟨"ControlFile", "startOver", "()V"⟩, 6) := ⟨⟨by decide +kernel, by decide +kernel⟩, List.mem_of_getElem? (i := 5) (by decide +kernel), List.mem_of_getElem? (i := 13) (by decide +kernel), List.mem_of_getElem? (i := 14) (by decide +kernel)⟩
theorem lw_p1 : lw_okq (⟨"ControlFile", "permission", "(IZ)I"⟩, 6) := ⟨⟨by decide +kernel, by decide +kernel⟩, List.mem_of_getElem? (i := 5) (by decide +kernel), List.mem_of_getElem? (i := 71) (by decide +kernel), List.mem_of_getElem? (i := 72) (by decide +kernel)⟩
theorem lw_p2 : lw_okq (⟨"ControlFile", "isTrapped", "(I)Z"⟩, 6) := ⟨⟨by decide +kernel, by decide +kernel⟩, List.mem_of_getElem? (i := 5) (by decide +kernel), List.mem_of_getElem? (i := 81) (by decide +kernel), List.mem_of_getElem? (i := 82) (by decide +kernel)⟩
theorem lw_p3 : lw_okq (⟨"ControlFile", "told", "(I)I"⟩, 6) := ⟨⟨by decide +kernel, by decide +kernel⟩, List.mem_of_getElem? (i := 5) (by decide +kernel), List.mem_of_getElem? (i := 86) (by decide +kernel), List.mem_of_getElem? (i := 87) (by decide +kernel)⟩
theorem lw_p4 : lw_okq (⟨"ControlFile", "pendingForS", "()I"⟩, 6) := ⟨⟨by decide +kernel, by decide +kernel⟩, List.mem_of_getElem? (i := 5) (by decide +kernel), List.mem_of_getElem? (i := 90) (by decide +kernel), List.mem_of_getElem? (i := 91) (by decide +kernel)⟩
theorem lw_p5 : lw_okq (⟨"ControlFile", "put", "(II)V"⟩, 6) := ⟨⟨by decide +kernel, by decide +kernel⟩, List.mem_of_getElem? (i := 5) (by decide +kernel), List.mem_of_getElem? (i := 97) (by decide +kernel), List.mem_of_getElem? (i := 98) (by decide +kernel)⟩
theorem lw_p6 : lw_okq (⟨"ControlFile", "putBits", "(III)V"⟩, 6) := ⟨⟨by decide +kernel, by decide +kernel⟩, List.mem_of_getElem? (i := 5) (by decide +kernel), List.mem_of_getElem? (i := 101) (by decide +kernel), List.mem_of_getElem? (i := 102) (by decide +kernel)⟩
theorem lw_p7 : lw_okq (⟨"ControlFile", "dueForS", "()I"⟩, 6) := ⟨⟨by decide +kernel, by decide +kernel⟩, List.mem_of_getElem? (i := 5) (by decide +kernel), List.mem_of_getElem? (i := 123) (by decide +kernel), List.mem_of_getElem? (i := 124) (by decide +kernel)⟩
theorem lw_p8 : lw_okq (⟨"ControlFile", "dueForVs", "()I"⟩, 6) := ⟨⟨by decide +kernel, by decide +kernel⟩, List.mem_of_getElem? (i := 5) (by decide +kernel), List.mem_of_getElem? (i := 132) (by decide +kernel), List.mem_of_getElem? (i := 133) (by decide +kernel)⟩
theorem lw_p9 : lw_okq (⟨"ControlFileModel", "refusal", "(IZ)I"⟩, 6) := ⟨⟨by decide +kernel, by decide +kernel⟩, List.mem_of_getElem? (i := 138) (by decide +kernel), List.mem_of_getElem? (i := 199) (by decide +kernel), List.mem_of_getElem? (i := 200) (by decide +kernel)⟩
theorem lw_p10 : lw_okq (⟨"ControlFileModel", "has", "(II)Z"⟩, 6) := ⟨⟨by decide +kernel, by decide +kernel⟩, List.mem_of_getElem? (i := 138) (by decide +kernel), List.mem_of_getElem? (i := 203) (by decide +kernel), List.mem_of_getElem? (i := 204) (by decide +kernel)⟩
theorem lw_p11 : lw_okq (⟨"ControlFileModel", "tells", "(I)I"⟩, 6) := ⟨⟨by decide +kernel, by decide +kernel⟩, List.mem_of_getElem? (i := 138) (by decide +kernel), List.mem_of_getElem? (i := 207) (by decide +kernel), List.mem_of_getElem? (i := 208) (by decide +kernel)⟩
theorem lw_p12 : lw_okq (⟨"ControlFileModel", "write", "(II)V"⟩, 6) := ⟨⟨by decide +kernel, by decide +kernel⟩, List.mem_of_getElem? (i := 138) (by decide +kernel), List.mem_of_getElem? (i := 211) (by decide +kernel), List.mem_of_getElem? (i := 212) (by decide +kernel)⟩
theorem lw_p13 : lw_okq (⟨"ControlFileModel", "put", "(III)V"⟩, 6) := ⟨⟨by decide +kernel, by decide +kernel⟩, List.mem_of_getElem? (i := 138) (by decide +kernel), List.mem_of_getElem? (i := 215) (by decide +kernel), List.mem_of_getElem? (i := 216) (by decide +kernel)⟩
def lw_privs_1 : List (MethodName × Nat) := [(⟨"ControlFile", "startOver", "()V"⟩, 6), (⟨"ControlFile", "permission", "(IZ)I"⟩, 6), (⟨"ControlFile", "isTrapped", "(I)Z"⟩, 6), (⟨"ControlFile", "told", "(I)I"⟩, 6), (⟨"ControlFile", "pendingForS", "()I"⟩, 6), (⟨"ControlFile", "put", "(II)V"⟩, 6), (⟨"ControlFile", "putBits", "(III)V"⟩, 6), (⟨"ControlFile", "dueForS", "()I"⟩, 6), (⟨"ControlFile", "dueForVs", "()I"⟩, 6), (⟨"ControlFileModel", "refusal", "(IZ)I"⟩, 6), (⟨"ControlFileModel", "has", "(II)Z"⟩, 6), (⟨"ControlFileModel", "tells", "(I)I"⟩, 6), (⟨"ControlFileModel", "write", "(II)V"⟩, 6), (⟨"ControlFileModel", "put", "(III)V"⟩, 6)]
theorem lw_r1 : ∀ q ∈ lw_privs_1, lw_okq q := List.forall_mem_cons.mpr ⟨lw_p0, List.forall_mem_cons.mpr ⟨lw_p1, List.forall_mem_cons.mpr ⟨lw_p2, List.forall_mem_cons.mpr ⟨lw_p3, List.forall_mem_cons.mpr ⟨lw_p4, List.forall_mem_cons.mpr ⟨lw_p5, List.forall_mem_cons.mpr ⟨lw_p6, List.forall_mem_cons.mpr ⟨lw_p7, List.forall_mem_cons.mpr ⟨lw_p8, List.forall_mem_cons.mpr ⟨lw_p9, List.forall_mem_cons.mpr ⟨lw_p10, List.forall_mem_cons.mpr ⟨lw_p11, List.forall_mem_cons.mpr ⟨lw_p12, List.forall_mem_cons.mpr ⟨lw_p13, fun _ h => absurd h List.not_mem_nil⟩⟩⟩⟩⟩⟩⟩⟩⟩⟩⟩⟩⟩⟩
def lw_privs : List (MethodName × Nat) := lw_privs_1
def lw_tbl : List Cond := k2_sels lw_privs ++ tables_1
theorem lw_privs_ok : ∀ q ∈ lw_privs, lw_okq q := lw_r1
/-! ===== BEGIN words of one list among another's, by their places ===== -/
theorem goodIn_r {big : List Cond} (ws : List Cond) (ps : List Nat) (hp : ws = ps.filterMap (fun i => big[i]?)) (h : ws.all goodWord = true) : GoodIn big ws := by
  intro w hw
  have h1 := List.all_eq_true.mp h w hw
  rw [hp] at hw
  obtain ⟨i, -, hi⟩ := List.mem_filterMap.mp hw
  have hm : w ∈ big := by first | exact List.mem_of_getElem? hi | exact List.getElem?_mem hi
  exact ⟨hm, good_of_word h1⟩
theorem goodIn_app {big a b : List Cond} (ha : GoodIn big a) (hb : GoodIn big b) : GoodIn big (a ++ b) := fun w h => (List.mem_append.mp h).elim (ha w) (hb w)
theorem goodIn_ca {big a b : List Cond} {c : Cond} (ha : GoodIn big (c :: a)) (hb : GoodIn big b) : GoodIn big (c :: (a ++ b)) := fun w h => (List.mem_cons.mp h).elim (fun e => ha w (List.mem_cons.mpr (Or.inl e))) (fun h => (List.mem_append.mp h).elim (fun h => ha w (List.mem_cons.mpr (Or.inr h))) (hb w))
theorem goodIn_sub {big ws : List Cond} (hm : ∀ w ∈ ws, w ∈ big) (h : ws.all goodWord = true) : GoodIn big ws := fun w hw => ⟨hm w hw, good_of_word (List.all_eq_true.mp h w hw)⟩
/-! ===== END ===== -/

/-! ===== BEGIN printed: names, fields, word lists, decode rows ===== -/
def RX0 : String := "ControlFile"
def TX0 : u_T := fun k => match k with
  | 0 => ("ControlFile", "kept", "[I", true)
  | 1 => ("ControlFile", "modeNow", "I", false)
  | 2 => ("ControlFile", "timeNow", "J", false)
  | 3 => ("ControlFile", "alarmAt", "J", false)
  | 4 => ("ControlFile", "lineOn", "Z", false)
  | _ => ("ControlFile", "oldValue", "I", false)
def tyX0 : Nat → FieldType := fun k => match k with
  | 0 => .array .int
  | 1 => .int
  | 2 => .long
  | 3 => .long
  | 4 => .boolean
  | _ => .int
abbrev wsX00 : List Cond := u_ws RX0 TX0 6
theorem nmX0 : ∀ a, a < 6 → ∀ b, b < 6 → a ≠ b → (TX0 a).2.1 ≠ (TX0 b).2.1 := by decide +kernel
theorem tyX0_ok : ∀ k, k < 6 → parseFieldDescriptor (TX0 k).2.2.1 = some (tyX0 k) := by decide +kernel
abbrev cX0_init : ByteArray := prog_1_method_1_code
def yX0_init : MethodName := ⟨RX0, "<init>", "()V"⟩
abbrev cX0_begin : ByteArray := prog_1_method_2_code
def yX0_begin : MethodName := ⟨RX0, "begin", "()V"⟩
abbrev cX0_mode : ByteArray := prog_1_method_3_code
def yX0_mode : MethodName := ⟨RX0, "mode", "(I)I"⟩
abbrev cX0_time : ByteArray := prog_1_method_4_code
def yX0_time : MethodName := ⟨RX0, "time", "(J)J"⟩
abbrev cX0_alarm : ByteArray := prog_1_method_5_code
def yX0_alarm : MethodName := ⟨RX0, "alarm", "(J)J"⟩
abbrev cX0_line : ByteArray := prog_1_method_6_code
def yX0_line : MethodName := ⟨RX0, "line", "(Z)Z"⟩
abbrev cX0_access : ByteArray := prog_1_method_7_code
def yX0_access : MethodName := ⟨RX0, "access", "(III)I"⟩
abbrev cX0_old : ByteArray := prog_1_method_8_code
def yX0_old : MethodName := ⟨RX0, "old", "()I"⟩
abbrev cX0_control : ByteArray := prog_1_method_9_code
def yX0_control : MethodName := ⟨RX0, "control", "(I)I"⟩
abbrev cX0_used : ByteArray := prog_1_method_10_code
def yX0_used : MethodName := ⟨RX0, "used", "()I"⟩
abbrev cX0_due : ByteArray := prog_1_method_11_code
def yX0_due : MethodName := ⟨RX0, "due", "()I"⟩
abbrev cX0_startOver : ByteArray := prog_1_method_12_code
def yX0_startOver : MethodName := ⟨RX0, "startOver", "()V"⟩
abbrev cX0_slotOf : ByteArray := prog_1_method_13_code
def yX0_slotOf : MethodName := ⟨RX0, "slotOf", "(I)I"⟩
abbrev cX0_isOfS : ByteArray := prog_1_method_14_code
def yX0_isOfS : MethodName := ⟨RX0, "isOfS", "(I)Z"⟩
abbrev cX0_isOfTime : ByteArray := prog_1_method_15_code
def yX0_isOfTime : MethodName := ⟨RX0, "isOfTime", "(I)Z"⟩
abbrev cX0_permission : ByteArray := prog_1_method_16_code
def yX0_permission : MethodName := ⟨RX0, "permission", "(IZ)I"⟩
abbrev cX0_isTrapped : ByteArray := prog_1_method_17_code
def yX0_isTrapped : MethodName := ⟨RX0, "isTrapped", "(I)Z"⟩
abbrev cX0_written : ByteArray := prog_1_method_18_code
def yX0_written : MethodName := ⟨RX0, "written", "(III)I"⟩
abbrev cX0_told : ByteArray := prog_1_method_19_code
def yX0_told : MethodName := ⟨RX0, "told", "(I)I"⟩
abbrev cX0_pendingForS : ByteArray := prog_1_method_20_code
def yX0_pendingForS : MethodName := ⟨RX0, "pendingForS", "()I"⟩
abbrev cX0_put : ByteArray := prog_1_method_21_code
def yX0_put : MethodName := ⟨RX0, "put", "(II)V"⟩
abbrev cX0_putBits : ByteArray := prog_1_method_22_code
def yX0_putBits : MethodName := ⟨RX0, "putBits", "(III)V"⟩
abbrev cX0_dueForS : ByteArray := prog_1_method_23_code
def yX0_dueForS : MethodName := ⟨RX0, "dueForS", "()I"⟩
abbrev cX0_dueForVs : ByteArray := prog_1_method_24_code
def yX0_dueForVs : MethodName := ⟨RX0, "dueForVs", "()I"⟩
abbrev cX0_firstOf : ByteArray := prog_1_method_25_code
def yX0_firstOf : MethodName := ⟨RX0, "firstOf", "([II)I"⟩
def RX1 : String := "ControlFileModel"
def TX1 : u_T := fun k => match k with
  | 0 => ("ControlFileModel", "kept", "[I", true)
  | 1 => ("ControlFileModel", "mode", "I", false)
  | 2 => ("ControlFileModel", "time", "J", false)
  | 3 => ("ControlFileModel", "alarm", "J", false)
  | 4 => ("ControlFileModel", "line", "Z", false)
  | _ => ("ControlFileModel", "old", "I", false)
def tyX1 : Nat → FieldType := fun k => match k with
  | 0 => .array .int
  | 1 => .int
  | 2 => .long
  | 3 => .long
  | 4 => .boolean
  | _ => .int
abbrev wsX10 : List Cond := u_ws RX1 TX1 6
theorem nmX1 : ∀ a, a < 6 → ∀ b, b < 6 → a ≠ b → (TX1 a).2.1 ≠ (TX1 b).2.1 := by decide +kernel
theorem tyX1_ok : ∀ k, k < 6 → parseFieldDescriptor (TX1 k).2.2.1 = some (tyX1 k) := by decide +kernel
abbrev cX1_init : ByteArray := prog_3_method_1_code
def yX1_init : MethodName := ⟨RX1, "<init>", "()V"⟩
abbrev cX1_begin : ByteArray := prog_3_method_3_code
def yX1_begin : MethodName := ⟨RX1, "begin", "()V"⟩
abbrev cX1_mode : ByteArray := prog_3_method_4_code
def yX1_mode : MethodName := ⟨RX1, "mode", "(I)I"⟩
abbrev cX1_time : ByteArray := prog_3_method_5_code
def yX1_time : MethodName := ⟨RX1, "time", "(J)J"⟩
abbrev cX1_alarm : ByteArray := prog_3_method_6_code
def yX1_alarm : MethodName := ⟨RX1, "alarm", "(J)J"⟩
abbrev cX1_line : ByteArray := prog_3_method_7_code
def yX1_line : MethodName := ⟨RX1, "line", "(Z)Z"⟩
abbrev cX1_kindOf : ByteArray := prog_3_method_8_code
def yX1_kindOf : MethodName := ⟨RX1, "kindOf", "(I)I"⟩
abbrev cX1_hyperOf : ByteArray := prog_3_method_9_code
def yX1_hyperOf : MethodName := ⟨RX1, "hyperOf", "(I)I"⟩
abbrev cX1_placeOf : ByteArray := prog_3_method_10_code
def yX1_placeOf : MethodName := ⟨RX1, "placeOf", "(I)I"⟩
abbrev cX1_has : ByteArray := prog_3_method_11_code
def yX1_has : MethodName := ⟨RX1, "has", "(II)Z"⟩
abbrev cX1_tells : ByteArray := prog_3_method_12_code
def yX1_tells : MethodName := ⟨RX1, "tells", "(I)I"⟩
abbrev cX1_put : ByteArray := prog_3_method_13_code
def yX1_put : MethodName := ⟨RX1, "put", "(III)V"⟩
abbrev cX1_maskOf : ByteArray := prog_3_method_14_code
def yX1_maskOf : MethodName := ⟨RX1, "maskOf", "(I)I"⟩
abbrev cX1_write : ByteArray := prog_3_method_15_code
def yX1_write : MethodName := ⟨RX1, "write", "(II)V"⟩
abbrev cX1_refusal : ByteArray := prog_3_method_16_code
def yX1_refusal : MethodName := ⟨RX1, "refusal", "(IZ)I"⟩
abbrev cX1_access : ByteArray := prog_3_method_17_code
def yX1_access : MethodName := ⟨RX1, "access", "(III)I"⟩
abbrev cX1_old : ByteArray := prog_3_method_18_code
def yX1_old : MethodName := ⟨RX1, "old", "()I"⟩
abbrev cX1_control : ByteArray := prog_3_method_19_code
def yX1_control : MethodName := ⟨RX1, "control", "(I)I"⟩
abbrev cX1_used : ByteArray := prog_3_method_20_code
def yX1_used : MethodName := ⟨RX1, "used", "()I"⟩
def RJ7 : String := "java/util/Arrays"
def TJ7 : u_T := fun k => match k with
  | _ => ("", "", "", false)
def tyJ7 : Nat → FieldType := fun k => match k with
  | _ => .int
abbrev wsJ70 : List Cond := u_ws RJ7 TJ7 0
theorem nmJ7 : ∀ a, a < 0 → ∀ b, b < 0 → a ≠ b → (TJ7 a).2.1 ≠ (TJ7 b).2.1 := by decide +kernel
theorem tyJ7_ok : ∀ k, k < 0 → parseFieldDescriptor (TJ7 k).2.2.1 = some (tyJ7 k) := by decide +kernel
abbrev cJ7_fill_53178 : ByteArray := prog_4_method_103_code
def yJ7_fill_53178 : MethodName := ⟨RJ7, "fill", "([II)V"⟩
def RL : String := "ControlFileLaw"
abbrev cL_law : ByteArray := code
def yL_law : MethodName := ⟨RL, "law", "([I)Z"⟩
def wsJ7_fill_53178 : List Cond := .code yJ7_fill_53178 cJ7_fill_53178 4 none :: ([])
def wsX0_startOver : List Cond := .code yX0_startOver cX0_startOver 1 none :: ([.fieldLink RX0 9 "ControlFile" "kept" "[I", .fieldLink RX0 16 "ControlFile" "modeNow" "I", .fieldLink RX0 22 "ControlFile" "timeNow" "J", .constantLong RX0 29 (9223372036854775807), .fieldLink RX0 26 "ControlFile" "alarmAt" "J", .fieldLink RX0 31 "ControlFile" "lineOn" "Z", .fieldLink RX0 58 "ControlFile" "oldValue" "I", .methodLink RX0 68 yJ7_fill_53178, .static yJ7_fill_53178, .initialized RJ7, .code yJ7_fill_53178 cJ7_fill_53178 4 none] ++ wsX00)
def wsX0_init : List Cond := .code yX0_init cX0_init 1 none :: ([.methodLink RX0 3 objectInit, .instanceMethod objectInit, .code objectInit ⟨#[0xb1]⟩ 1 none, .arrayClass .int, .fieldLink RX0 9 "ControlFile" "kept" "[I", .methodLink RX0 13 yX0_startOver, .instanceMethod yX0_startOver, .selects RX0 yX0_startOver yX0_startOver, .initialized RX0, .code yX0_startOver cX0_startOver 1 none, .fieldLink RX0 16 "ControlFile" "modeNow" "I", .fieldLink RX0 22 "ControlFile" "timeNow" "J", .constantLong RX0 29 (9223372036854775807), .fieldLink RX0 26 "ControlFile" "alarmAt" "J", .fieldLink RX0 31 "ControlFile" "lineOn" "Z", .fieldLink RX0 58 "ControlFile" "oldValue" "I", .methodLink RX0 68 yJ7_fill_53178, .static yJ7_fill_53178, .initialized RJ7, .code yJ7_fill_53178 cJ7_fill_53178 4 none] ++ wsX00)
def wsX0_begin : List Cond := .code yX0_begin cX0_begin 1 none :: ([.methodLink RX0 13 yX0_startOver, .instanceMethod yX0_startOver, .selects RX0 yX0_startOver yX0_startOver, .initialized RX0, .code yX0_startOver cX0_startOver 1 none, .fieldLink RX0 9 "ControlFile" "kept" "[I", .fieldLink RX0 16 "ControlFile" "modeNow" "I", .fieldLink RX0 22 "ControlFile" "timeNow" "J", .constantLong RX0 29 (9223372036854775807), .fieldLink RX0 26 "ControlFile" "alarmAt" "J", .fieldLink RX0 31 "ControlFile" "lineOn" "Z", .fieldLink RX0 58 "ControlFile" "oldValue" "I", .methodLink RX0 68 yJ7_fill_53178, .static yJ7_fill_53178, .initialized RJ7, .code yJ7_fill_53178 cJ7_fill_53178 4 none] ++ wsX00)
def wsX0_mode : List Cond := .code yX0_mode cX0_mode 3 (some .int) :: ([.fieldLink RX0 16 "ControlFile" "modeNow" "I"] ++ wsX00)
def wsX0_time : List Cond := .code yX0_time cX0_time 5 (some .long) :: ([.constantLong RX0 20 (-1), .fieldLink RX0 22 "ControlFile" "timeNow" "J"] ++ wsX00)
def wsX0_alarm : List Cond := .code yX0_alarm cX0_alarm 5 (some .long) :: ([.fieldLink RX0 26 "ControlFile" "alarmAt" "J", .constantLong RX0 29 (9223372036854775807)] ++ wsX00)
def wsX0_line : List Cond := .code yX0_line cX0_line 3 (some .boolean) :: ([.fieldLink RX0 31 "ControlFile" "lineOn" "Z"] ++ wsX00)
def wsX0_slotOf : List Cond := .code yX0_slotOf cX0_slotOf 2 (some .int) :: ([.fieldLink RX0 74 "ControlFile" "NUMBERS" "[I"])
def wsX0_isOfTime : List Cond := .code yX0_isOfTime cX0_isOfTime 1 (some .boolean) :: ([])
def wsX0_isOfS : List Cond := .code yX0_isOfS cX0_isOfS 1 (some .boolean) :: ([])
def wsX0_isTrapped : List Cond := .code yX0_isTrapped cX0_isTrapped 2 (some .boolean) :: ([.fieldLink RX0 9 "ControlFile" "kept" "[I", .constant RX0 83 (1048576)] ++ wsX00)
def wsX0_permission : List Cond := .code yX0_permission cX0_permission 3 (some .int) :: ([.fieldLink RX0 16 "ControlFile" "modeNow" "I", .methodLink RX0 77 yX0_isOfTime, .static yX0_isOfTime, .initialized RX0, .code yX0_isOfTime cX0_isOfTime 1 (some .boolean), .methodLink RX0 43 yX0_isOfS, .static yX0_isOfS, .code yX0_isOfS cX0_isOfS 1 (some .boolean), .methodLink RX0 80 yX0_isTrapped, .instanceMethod yX0_isTrapped, .selects RX0 yX0_isTrapped yX0_isTrapped, .code yX0_isTrapped cX0_isTrapped 2 (some .boolean), .fieldLink RX0 9 "ControlFile" "kept" "[I", .constant RX0 83 (1048576)] ++ wsX00)
def wsX0_pendingForS : List Cond := .code yX0_pendingForS cX0_pendingForS 2 (some .int) :: ([.fieldLink RX0 9 "ControlFile" "kept" "[I", .fieldLink RX0 22 "ControlFile" "timeNow" "J", .fieldLink RX0 26 "ControlFile" "alarmAt" "J", .fieldLink RX0 31 "ControlFile" "lineOn" "Z"] ++ wsX00)
def wsX0_told : List Cond := .code yX0_told cX0_told 2 (some .int) :: ([.fieldLink RX0 9 "ControlFile" "kept" "[I", .fieldLink RX0 22 "ControlFile" "timeNow" "J", .methodLink RX0 84 yX0_pendingForS, .instanceMethod yX0_pendingForS, .selects RX0 yX0_pendingForS yX0_pendingForS, .initialized RX0, .code yX0_pendingForS cX0_pendingForS 2 (some .int), .fieldLink RX0 26 "ControlFile" "alarmAt" "J", .fieldLink RX0 31 "ControlFile" "lineOn" "Z"] ++ wsX00)
def wsX0_written : List Cond := .code yX0_written cX0_written 3 (some .int) :: ([])
def wsX0_putBits : List Cond := .code yX0_putBits cX0_putBits 4 none :: ([.fieldLink RX0 9 "ControlFile" "kept" "[I"] ++ wsX00)
def wsX0_put : List Cond := .code yX0_put cX0_put 3 none :: ([.fieldLink RX0 9 "ControlFile" "kept" "[I", .fieldLink RX0 91 "ControlFile" "KEEPS" "[I", .methodLink RX0 87 yX0_putBits, .instanceMethod yX0_putBits, .selects RX0 yX0_putBits yX0_putBits, .initialized RX0, .code yX0_putBits cX0_putBits 4 none] ++ wsX00)
def wsX0_access_r1 : List Cond := [Cond.fieldLink RX0 16 "ControlFile" "modeNow" "I", Cond.fieldLink RX0 58 "ControlFile" "oldValue" "I", Cond.methodLink RX0 35 yX0_slotOf, Cond.static yX0_slotOf, Cond.initialized RX0, Cond.code yX0_slotOf cX0_slotOf 2 (some .int), Cond.fieldLink RX0 74 "ControlFile" "NUMBERS" "[I", Cond.methodLink RX0 39 yX0_permission, Cond.instanceMethod yX0_permission, Cond.selects RX0 yX0_permission yX0_permission, Cond.code yX0_permission cX0_permission 3 (some .int), Cond.methodLink RX0 77 yX0_isOfTime, Cond.static yX0_isOfTime, Cond.code yX0_isOfTime cX0_isOfTime 1 (some .boolean), Cond.methodLink RX0 43 yX0_isOfS, Cond.static yX0_isOfS, Cond.code yX0_isOfS cX0_isOfS 1 (some .boolean), Cond.methodLink RX0 80 yX0_isTrapped, Cond.instanceMethod yX0_isTrapped, Cond.selects RX0 yX0_isTrapped yX0_isTrapped, Cond.code yX0_isTrapped cX0_isTrapped 2 (some .boolean), Cond.fieldLink RX0 9 "ControlFile" "kept" "[I", Cond.constant RX0 83 (1048576), Cond.methodLink RX0 47 yX0_told]
def wsX0_access_r2 : List Cond := [Cond.instanceMethod yX0_told, Cond.selects RX0 yX0_told yX0_told, Cond.code yX0_told cX0_told 2 (some .int), Cond.fieldLink RX0 22 "ControlFile" "timeNow" "J", Cond.methodLink RX0 84 yX0_pendingForS, Cond.instanceMethod yX0_pendingForS, Cond.selects RX0 yX0_pendingForS yX0_pendingForS, Cond.code yX0_pendingForS cX0_pendingForS 2 (some .int), Cond.fieldLink RX0 26 "ControlFile" "alarmAt" "J", Cond.fieldLink RX0 31 "ControlFile" "lineOn" "Z", Cond.methodLink RX0 50 yX0_written, Cond.static yX0_written, Cond.code yX0_written cX0_written 3 (some .int), Cond.methodLink RX0 54 yX0_put, Cond.instanceMethod yX0_put, Cond.selects RX0 yX0_put yX0_put, Cond.code yX0_put cX0_put 3 none, Cond.fieldLink RX0 91 "ControlFile" "KEEPS" "[I", Cond.methodLink RX0 87 yX0_putBits, Cond.instanceMethod yX0_putBits, Cond.selects RX0 yX0_putBits yX0_putBits, Cond.code yX0_putBits cX0_putBits 4 none]
def wsX0_access : List Cond := .code yX0_access cX0_access 8 (some .int) :: ((wsX0_access_r1 ++ wsX0_access_r2) ++ wsX00)
def wsX0_old : List Cond := .code yX0_old cX0_old 1 (some .int) :: ([.fieldLink RX0 58 "ControlFile" "oldValue" "I"] ++ wsX00)
def wsX0_control : List Cond := .code yX0_control cX0_control 2 (some .int) :: ([.methodLink RX0 35 yX0_slotOf, .static yX0_slotOf, .initialized RX0, .code yX0_slotOf cX0_slotOf 2 (some .int), .fieldLink RX0 74 "ControlFile" "NUMBERS" "[I", .methodLink RX0 47 yX0_told, .instanceMethod yX0_told, .selects RX0 yX0_told yX0_told, .code yX0_told cX0_told 2 (some .int), .fieldLink RX0 9 "ControlFile" "kept" "[I", .fieldLink RX0 22 "ControlFile" "timeNow" "J", .methodLink RX0 84 yX0_pendingForS, .instanceMethod yX0_pendingForS, .selects RX0 yX0_pendingForS yX0_pendingForS, .code yX0_pendingForS cX0_pendingForS 2 (some .int), .fieldLink RX0 26 "ControlFile" "alarmAt" "J", .fieldLink RX0 31 "ControlFile" "lineOn" "Z"] ++ wsX00)
def wsX0_used : List Cond := .code yX0_used cX0_used 3 (some .int) :: ([.methodLink RX0 47 yX0_told, .instanceMethod yX0_told, .selects RX0 yX0_told yX0_told, .initialized RX0, .code yX0_told cX0_told 2 (some .int), .fieldLink RX0 9 "ControlFile" "kept" "[I", .fieldLink RX0 22 "ControlFile" "timeNow" "J", .methodLink RX0 84 yX0_pendingForS, .instanceMethod yX0_pendingForS, .selects RX0 yX0_pendingForS yX0_pendingForS, .code yX0_pendingForS cX0_pendingForS 2 (some .int), .fieldLink RX0 26 "ControlFile" "alarmAt" "J", .fieldLink RX0 31 "ControlFile" "lineOn" "Z"] ++ wsX00)
def wsX0_firstOf : List Cond := .code yX0_firstOf cX0_firstOf 3 (some .int) :: ([])
def wsX0_dueForS : List Cond := .code yX0_dueForS cX0_dueForS 3 (some .int) :: ([.fieldLink RX0 16 "ControlFile" "modeNow" "I", .fieldLink RX0 9 "ControlFile" "kept" "[I", .fieldLink RX0 94 "ControlFile" "S_ORDER" "[I", .methodLink RX0 84 yX0_pendingForS, .instanceMethod yX0_pendingForS, .selects RX0 yX0_pendingForS yX0_pendingForS, .initialized RX0, .code yX0_pendingForS cX0_pendingForS 2 (some .int), .fieldLink RX0 22 "ControlFile" "timeNow" "J", .fieldLink RX0 26 "ControlFile" "alarmAt" "J", .fieldLink RX0 31 "ControlFile" "lineOn" "Z", .methodLink RX0 97 yX0_firstOf, .static yX0_firstOf, .code yX0_firstOf cX0_firstOf 3 (some .int)] ++ wsX00)
def wsX0_dueForVs : List Cond := .code yX0_dueForVs cX0_dueForVs 3 (some .int) :: ([.fieldLink RX0 16 "ControlFile" "modeNow" "I", .fieldLink RX0 9 "ControlFile" "kept" "[I", .fieldLink RX0 101 "ControlFile" "VS_ORDER" "[I", .methodLink RX0 97 yX0_firstOf, .static yX0_firstOf, .initialized RX0, .code yX0_firstOf cX0_firstOf 3 (some .int)] ++ wsX00)
def wsX0_due : List Cond := .code yX0_due cX0_due 2 (some .int) :: ([.methodLink RX0 61 yX0_dueForS, .instanceMethod yX0_dueForS, .selects RX0 yX0_dueForS yX0_dueForS, .initialized RX0, .code yX0_dueForS cX0_dueForS 3 (some .int), .fieldLink RX0 16 "ControlFile" "modeNow" "I", .fieldLink RX0 9 "ControlFile" "kept" "[I", .fieldLink RX0 94 "ControlFile" "S_ORDER" "[I", .methodLink RX0 84 yX0_pendingForS, .instanceMethod yX0_pendingForS, .selects RX0 yX0_pendingForS yX0_pendingForS, .code yX0_pendingForS cX0_pendingForS 2 (some .int), .fieldLink RX0 22 "ControlFile" "timeNow" "J", .fieldLink RX0 26 "ControlFile" "alarmAt" "J", .fieldLink RX0 31 "ControlFile" "lineOn" "Z", .methodLink RX0 97 yX0_firstOf, .static yX0_firstOf, .code yX0_firstOf cX0_firstOf 3 (some .int), .methodLink RX0 65 yX0_dueForVs, .instanceMethod yX0_dueForVs, .selects RX0 yX0_dueForVs yX0_dueForVs, .code yX0_dueForVs cX0_dueForVs 3 (some .int), .fieldLink RX0 101 "ControlFile" "VS_ORDER" "[I"] ++ wsX00)
def wsX1_begin : List Cond := .code yX1_begin cX1_begin 2 none :: ([.fieldLink RX1 7 "ControlFileModel" "kept" "[I", .fieldLink RX1 16 "ControlFileModel" "mode" "I", .fieldLink RX1 20 "ControlFileModel" "time" "J", .constantLong RX1 24 (9223372036854775807), .fieldLink RX1 26 "ControlFileModel" "alarm" "J", .fieldLink RX1 29 "ControlFileModel" "line" "Z", .fieldLink RX1 33 "ControlFileModel" "old" "I"] ++ wsX10)
def wsX1_init : List Cond := .code yX1_init cX1_init 1 none :: ([.methodLink RX1 1 objectInit, .instanceMethod objectInit, .code objectInit ⟨#[0xb1]⟩ 1 none, .arrayClass .int, .fieldLink RX1 7 "ControlFileModel" "kept" "[I", .methodLink RX1 13 yX1_begin, .instanceMethod yX1_begin, .selects RX1 yX1_begin yX1_begin, .initialized RX1, .code yX1_begin cX1_begin 2 none, .fieldLink RX1 16 "ControlFileModel" "mode" "I", .fieldLink RX1 20 "ControlFileModel" "time" "J", .constantLong RX1 24 (9223372036854775807), .fieldLink RX1 26 "ControlFileModel" "alarm" "J", .fieldLink RX1 29 "ControlFileModel" "line" "Z", .fieldLink RX1 33 "ControlFileModel" "old" "I"] ++ wsX10)
def wsX1_mode : List Cond := .code yX1_mode cX1_mode 3 (some .int) :: ([.fieldLink RX1 16 "ControlFileModel" "mode" "I"] ++ wsX10)
def wsX1_time : List Cond := .code yX1_time cX1_time 5 (some .long) :: ([.constantLong RX1 36 (-1), .fieldLink RX1 20 "ControlFileModel" "time" "J"] ++ wsX10)
def wsX1_alarm : List Cond := .code yX1_alarm cX1_alarm 5 (some .long) :: ([.fieldLink RX1 26 "ControlFileModel" "alarm" "J", .constantLong RX1 24 (9223372036854775807)] ++ wsX10)
def wsX1_line : List Cond := .code yX1_line cX1_line 3 (some .boolean) :: ([.fieldLink RX1 29 "ControlFileModel" "line" "Z"] ++ wsX10)
def wsX1_kindOf : List Cond := .code yX1_kindOf cX1_kindOf 1 (some .int) :: ([])
def wsX1_hyperOf : List Cond := .code yX1_hyperOf cX1_hyperOf 1 (some .int) :: ([])
def wsX1_placeOf : List Cond := .code yX1_placeOf cX1_placeOf 3 (some .int) :: ([.methodLink RX1 38 yX1_hyperOf, .static yX1_hyperOf, .initialized RX1, .code yX1_hyperOf cX1_hyperOf 1 (some .int), .methodLink RX1 42 yX1_kindOf, .static yX1_kindOf, .code yX1_kindOf cX1_kindOf 1 (some .int)])
def wsX1_has : List Cond := .code yX1_has cX1_has 3 (some .boolean) :: ([.fieldLink RX1 7 "ControlFileModel" "kept" "[I"] ++ wsX10)
def wsX1_tells : List Cond := .code yX1_tells cX1_tells 2 (some .int) :: ([.fieldLink RX1 7 "ControlFileModel" "kept" "[I", .fieldLink RX1 20 "ControlFileModel" "time" "J", .fieldLink RX1 26 "ControlFileModel" "alarm" "J", .fieldLink RX1 29 "ControlFileModel" "line" "Z"] ++ wsX10)
def wsX1_put : List Cond := .code yX1_put cX1_put 4 none :: ([.fieldLink RX1 7 "ControlFileModel" "kept" "[I"] ++ wsX10)
def wsX1_maskOf : List Cond := .code yX1_maskOf cX1_maskOf 1 (some .int) :: ([.constant RX1 45 (786722), .constant RX1 46 (-2143289345), .constant RX1 47 (7340992), .constant RX1 48 (45567), .constant RX1 49 (-2143289348)])
def wsX1_write : List Cond := .code yX1_write cX1_write 3 none :: ([.fieldLink RX1 7 "ControlFileModel" "kept" "[I", .methodLink RX1 50 yX1_put, .instanceMethod yX1_put, .selects RX1 yX1_put yX1_put, .initialized RX1, .code yX1_put cX1_put 4 none, .methodLink RX1 54 yX1_maskOf, .static yX1_maskOf, .code yX1_maskOf cX1_maskOf 1 (some .int), .constant RX1 45 (786722), .constant RX1 46 (-2143289345), .constant RX1 47 (7340992), .constant RX1 48 (45567), .constant RX1 49 (-2143289348)] ++ wsX10)
def wsX1_refusal : List Cond := .code yX1_refusal cX1_refusal 5 (some .int) :: ([.fieldLink RX1 16 "ControlFileModel" "mode" "I", .methodLink RX1 57 yX1_has, .instanceMethod yX1_has, .selects RX1 yX1_has yX1_has, .initialized RX1, .code yX1_has cX1_has 3 (some .boolean), .fieldLink RX1 7 "ControlFileModel" "kept" "[I"] ++ wsX10)
def wsX1_access_r1 : List Cond := [Cond.fieldLink RX1 16 "ControlFileModel" "mode" "I", Cond.fieldLink RX1 33 "ControlFileModel" "old" "I", Cond.methodLink RX1 61 yX1_placeOf, Cond.static yX1_placeOf, Cond.initialized RX1, Cond.code yX1_placeOf cX1_placeOf 3 (some .int), Cond.methodLink RX1 38 yX1_hyperOf, Cond.static yX1_hyperOf, Cond.code yX1_hyperOf cX1_hyperOf 1 (some .int), Cond.methodLink RX1 42 yX1_kindOf, Cond.static yX1_kindOf, Cond.code yX1_kindOf cX1_kindOf 1 (some .int), Cond.methodLink RX1 64 yX1_refusal, Cond.instanceMethod yX1_refusal, Cond.selects RX1 yX1_refusal yX1_refusal, Cond.code yX1_refusal cX1_refusal 5 (some .int), Cond.methodLink RX1 57 yX1_has, Cond.instanceMethod yX1_has, Cond.selects RX1 yX1_has yX1_has, Cond.code yX1_has cX1_has 3 (some .boolean), Cond.fieldLink RX1 7 "ControlFileModel" "kept" "[I", Cond.methodLink RX1 68 yX1_tells, Cond.instanceMethod yX1_tells, Cond.selects RX1 yX1_tells yX1_tells]
def wsX1_access_r2 : List Cond := [Cond.code yX1_tells cX1_tells 2 (some .int), Cond.fieldLink RX1 20 "ControlFileModel" "time" "J", Cond.fieldLink RX1 26 "ControlFileModel" "alarm" "J", Cond.fieldLink RX1 29 "ControlFileModel" "line" "Z", Cond.methodLink RX1 71 yX1_write, Cond.instanceMethod yX1_write, Cond.selects RX1 yX1_write yX1_write, Cond.code yX1_write cX1_write 3 none, Cond.methodLink RX1 50 yX1_put, Cond.instanceMethod yX1_put, Cond.selects RX1 yX1_put yX1_put, Cond.code yX1_put cX1_put 4 none, Cond.methodLink RX1 54 yX1_maskOf, Cond.static yX1_maskOf, Cond.code yX1_maskOf cX1_maskOf 1 (some .int), Cond.constant RX1 45 (786722), Cond.constant RX1 46 (-2143289345), Cond.constant RX1 47 (7340992), Cond.constant RX1 48 (45567), Cond.constant RX1 49 (-2143289348)]
def wsX1_access : List Cond := .code yX1_access cX1_access 7 (some .int) :: ((wsX1_access_r1 ++ wsX1_access_r2) ++ wsX10)
def wsX1_old : List Cond := .code yX1_old cX1_old 1 (some .int) :: ([.fieldLink RX1 33 "ControlFileModel" "old" "I"] ++ wsX10)
def wsX1_control : List Cond := .code yX1_control cX1_control 3 (some .int) :: ([.methodLink RX1 61 yX1_placeOf, .static yX1_placeOf, .initialized RX1, .code yX1_placeOf cX1_placeOf 3 (some .int), .methodLink RX1 38 yX1_hyperOf, .static yX1_hyperOf, .code yX1_hyperOf cX1_hyperOf 1 (some .int), .methodLink RX1 42 yX1_kindOf, .static yX1_kindOf, .code yX1_kindOf cX1_kindOf 1 (some .int), .methodLink RX1 68 yX1_tells, .instanceMethod yX1_tells, .selects RX1 yX1_tells yX1_tells, .code yX1_tells cX1_tells 2 (some .int), .fieldLink RX1 7 "ControlFileModel" "kept" "[I", .fieldLink RX1 20 "ControlFileModel" "time" "J", .fieldLink RX1 26 "ControlFileModel" "alarm" "J", .fieldLink RX1 29 "ControlFileModel" "line" "Z"] ++ wsX10)
def wsX1_used : List Cond := .code yX1_used cX1_used 3 (some .int) :: ([.methodLink RX1 68 yX1_tells, .instanceMethod yX1_tells, .selects RX1 yX1_tells yX1_tells, .initialized RX1, .code yX1_tells cX1_tells 2 (some .int), .fieldLink RX1 7 "ControlFileModel" "kept" "[I", .fieldLink RX1 20 "ControlFileModel" "time" "J", .fieldLink RX1 26 "ControlFileModel" "alarm" "J", .fieldLink RX1 29 "ControlFileModel" "line" "Z"] ++ wsX10)
def wsL_law_r1 : List Cond := [Cond.classLink RL 7 RX0, Cond.instantiable RX0 6, Cond.initialized RX0, Cond.classLink RL 10 RX1, Cond.instantiable RX1 6, Cond.initialized RX1, Cond.methodLink RL 9 yX0_init, Cond.instanceMethod yX0_init, Cond.code yX0_init cX0_init 1 none, Cond.methodLink RX0 3 objectInit, Cond.instanceMethod objectInit, Cond.code objectInit ⟨#[0xb1]⟩ 1 none, Cond.arrayClass .int, Cond.fieldLink RX0 9 "ControlFile" "kept" "[I", Cond.methodLink RX0 13 yX0_startOver, Cond.instanceMethod yX0_startOver, Cond.selects RX0 yX0_startOver yX0_startOver, Cond.code yX0_startOver cX0_startOver 1 none, Cond.fieldLink RX0 16 "ControlFile" "modeNow" "I", Cond.fieldLink RX0 22 "ControlFile" "timeNow" "J", Cond.constantLong RX0 29 (9223372036854775807), Cond.fieldLink RX0 26 "ControlFile" "alarmAt" "J", Cond.fieldLink RX0 31 "ControlFile" "lineOn" "Z", Cond.fieldLink RX0 58 "ControlFile" "oldValue" "I"]
def wsL_law_r2 : List Cond := [Cond.methodLink RX0 68 yJ7_fill_53178, Cond.static yJ7_fill_53178, Cond.initialized RJ7, Cond.code yJ7_fill_53178 cJ7_fill_53178 4 none, Cond.methodLink RL 12 yX1_init, Cond.instanceMethod yX1_init, Cond.code yX1_init cX1_init 1 none, Cond.methodLink RX1 1 objectInit, Cond.fieldLink RX1 7 "ControlFileModel" "kept" "[I", Cond.methodLink RX1 13 yX1_begin, Cond.instanceMethod yX1_begin, Cond.selects RX1 yX1_begin yX1_begin, Cond.code yX1_begin cX1_begin 2 none, Cond.fieldLink RX1 16 "ControlFileModel" "mode" "I", Cond.fieldLink RX1 20 "ControlFileModel" "time" "J", Cond.constantLong RX1 24 (9223372036854775807), Cond.fieldLink RX1 26 "ControlFileModel" "alarm" "J", Cond.fieldLink RX1 29 "ControlFileModel" "line" "Z", Cond.fieldLink RX1 33 "ControlFileModel" "old" "I", Cond.methodLink RL 13 yX0_begin, Cond.instanceMethod yX0_begin, Cond.selects RX0 yX0_begin yX0_begin, Cond.code yX0_begin cX0_begin 1 none, Cond.methodLink RL 16 yX1_begin]
def wsL_law_r3 : List Cond := [Cond.methodLink RL 17 yX0_mode, Cond.instanceMethod yX0_mode, Cond.selects RX0 yX0_mode yX0_mode, Cond.code yX0_mode cX0_mode 3 (some .int), Cond.methodLink RL 21 yX1_mode, Cond.instanceMethod yX1_mode, Cond.selects RX1 yX1_mode yX1_mode, Cond.code yX1_mode cX1_mode 3 (some .int), Cond.methodLink RL 24 yX0_time, Cond.instanceMethod yX0_time, Cond.selects RX0 yX0_time yX0_time, Cond.code yX0_time cX0_time 5 (some .long), Cond.constantLong RX0 20 (-1), Cond.methodLink RL 28 yX1_time, Cond.instanceMethod yX1_time, Cond.selects RX1 yX1_time yX1_time, Cond.code yX1_time cX1_time 5 (some .long), Cond.constantLong RX1 36 (-1), Cond.methodLink RL 29 yX0_alarm, Cond.instanceMethod yX0_alarm, Cond.selects RX0 yX0_alarm yX0_alarm, Cond.code yX0_alarm cX0_alarm 5 (some .long), Cond.methodLink RL 32 yX1_alarm, Cond.instanceMethod yX1_alarm]
def wsL_law_r4 : List Cond := [Cond.selects RX1 yX1_alarm yX1_alarm, Cond.code yX1_alarm cX1_alarm 5 (some .long), Cond.methodLink RL 33 yX0_line, Cond.instanceMethod yX0_line, Cond.selects RX0 yX0_line yX0_line, Cond.code yX0_line cX0_line 3 (some .boolean), Cond.methodLink RL 37 yX1_line, Cond.instanceMethod yX1_line, Cond.selects RX1 yX1_line yX1_line, Cond.code yX1_line cX1_line 3 (some .boolean), Cond.methodLink RL 38 yX0_access, Cond.instanceMethod yX0_access, Cond.selects RX0 yX0_access yX0_access, Cond.code yX0_access cX0_access 8 (some .int), Cond.methodLink RX0 35 yX0_slotOf, Cond.static yX0_slotOf, Cond.code yX0_slotOf cX0_slotOf 2 (some .int), Cond.fieldLink RX0 74 "ControlFile" "NUMBERS" "[I", Cond.methodLink RX0 39 yX0_permission, Cond.instanceMethod yX0_permission, Cond.selects RX0 yX0_permission yX0_permission, Cond.code yX0_permission cX0_permission 3 (some .int), Cond.methodLink RX0 77 yX0_isOfTime, Cond.static yX0_isOfTime]
def wsL_law_r5 : List Cond := [Cond.code yX0_isOfTime cX0_isOfTime 1 (some .boolean), Cond.methodLink RX0 43 yX0_isOfS, Cond.static yX0_isOfS, Cond.code yX0_isOfS cX0_isOfS 1 (some .boolean), Cond.methodLink RX0 80 yX0_isTrapped, Cond.instanceMethod yX0_isTrapped, Cond.selects RX0 yX0_isTrapped yX0_isTrapped, Cond.code yX0_isTrapped cX0_isTrapped 2 (some .boolean), Cond.constant RX0 83 (1048576), Cond.methodLink RX0 47 yX0_told, Cond.instanceMethod yX0_told, Cond.selects RX0 yX0_told yX0_told, Cond.code yX0_told cX0_told 2 (some .int), Cond.methodLink RX0 84 yX0_pendingForS, Cond.instanceMethod yX0_pendingForS, Cond.selects RX0 yX0_pendingForS yX0_pendingForS, Cond.code yX0_pendingForS cX0_pendingForS 2 (some .int), Cond.methodLink RX0 50 yX0_written, Cond.static yX0_written, Cond.code yX0_written cX0_written 3 (some .int), Cond.methodLink RX0 54 yX0_put, Cond.instanceMethod yX0_put, Cond.selects RX0 yX0_put yX0_put, Cond.code yX0_put cX0_put 3 none]
def wsL_law_r6 : List Cond := [Cond.fieldLink RX0 91 "ControlFile" "KEEPS" "[I", Cond.methodLink RX0 87 yX0_putBits, Cond.instanceMethod yX0_putBits, Cond.selects RX0 yX0_putBits yX0_putBits, Cond.code yX0_putBits cX0_putBits 4 none, Cond.methodLink RL 42 yX1_access, Cond.instanceMethod yX1_access, Cond.selects RX1 yX1_access yX1_access, Cond.code yX1_access cX1_access 7 (some .int), Cond.methodLink RX1 61 yX1_placeOf, Cond.static yX1_placeOf, Cond.code yX1_placeOf cX1_placeOf 3 (some .int), Cond.methodLink RX1 38 yX1_hyperOf, Cond.static yX1_hyperOf, Cond.code yX1_hyperOf cX1_hyperOf 1 (some .int), Cond.methodLink RX1 42 yX1_kindOf, Cond.static yX1_kindOf, Cond.code yX1_kindOf cX1_kindOf 1 (some .int), Cond.methodLink RX1 64 yX1_refusal, Cond.instanceMethod yX1_refusal, Cond.selects RX1 yX1_refusal yX1_refusal, Cond.code yX1_refusal cX1_refusal 5 (some .int), Cond.methodLink RX1 57 yX1_has, Cond.instanceMethod yX1_has]
def wsL_law_r7 : List Cond := [Cond.selects RX1 yX1_has yX1_has, Cond.code yX1_has cX1_has 3 (some .boolean), Cond.methodLink RX1 68 yX1_tells, Cond.instanceMethod yX1_tells, Cond.selects RX1 yX1_tells yX1_tells, Cond.code yX1_tells cX1_tells 2 (some .int), Cond.methodLink RX1 71 yX1_write, Cond.instanceMethod yX1_write, Cond.selects RX1 yX1_write yX1_write, Cond.code yX1_write cX1_write 3 none, Cond.methodLink RX1 50 yX1_put, Cond.instanceMethod yX1_put, Cond.selects RX1 yX1_put yX1_put, Cond.code yX1_put cX1_put 4 none, Cond.methodLink RX1 54 yX1_maskOf, Cond.static yX1_maskOf, Cond.code yX1_maskOf cX1_maskOf 1 (some .int), Cond.constant RX1 45 (786722), Cond.constant RX1 46 (-2143289345), Cond.constant RX1 47 (7340992), Cond.constant RX1 48 (45567), Cond.constant RX1 49 (-2143289348), Cond.methodLink RL 43 yX0_old, Cond.instanceMethod yX0_old]
def wsL_law_r8 : List Cond := [Cond.selects RX0 yX0_old yX0_old, Cond.code yX0_old cX0_old 1 (some .int), Cond.methodLink RL 47 yX1_old, Cond.instanceMethod yX1_old, Cond.selects RX1 yX1_old yX1_old, Cond.code yX1_old cX1_old 1 (some .int), Cond.methodLink RL 48 yX0_control, Cond.instanceMethod yX0_control, Cond.selects RX0 yX0_control yX0_control, Cond.code yX0_control cX0_control 2 (some .int), Cond.methodLink RL 51 yX1_control, Cond.instanceMethod yX1_control, Cond.selects RX1 yX1_control yX1_control, Cond.code yX1_control cX1_control 3 (some .int), Cond.methodLink RL 52 yX0_used, Cond.instanceMethod yX0_used, Cond.selects RX0 yX0_used yX0_used, Cond.code yX0_used cX0_used 3 (some .int), Cond.methodLink RL 55 yX1_used, Cond.instanceMethod yX1_used, Cond.selects RX1 yX1_used yX1_used, Cond.code yX1_used cX1_used 3 (some .int), Cond.methodLink RL 56 yX0_due, Cond.instanceMethod yX0_due]
def wsL_law_r9 : List Cond := [Cond.selects RX0 yX0_due yX0_due, Cond.code yX0_due cX0_due 2 (some .int), Cond.methodLink RX0 61 yX0_dueForS, Cond.instanceMethod yX0_dueForS, Cond.selects RX0 yX0_dueForS yX0_dueForS, Cond.code yX0_dueForS cX0_dueForS 3 (some .int), Cond.fieldLink RX0 94 "ControlFile" "S_ORDER" "[I", Cond.methodLink RX0 97 yX0_firstOf, Cond.static yX0_firstOf, Cond.code yX0_firstOf cX0_firstOf 3 (some .int), Cond.methodLink RX0 65 yX0_dueForVs, Cond.instanceMethod yX0_dueForVs, Cond.selects RX0 yX0_dueForVs yX0_dueForVs, Cond.code yX0_dueForVs cX0_dueForVs 3 (some .int), Cond.fieldLink RX0 101 "ControlFile" "VS_ORDER" "[I"]
def wsL_law : List Cond := (wsL_law_r1 ++ (wsL_law_r2 ++ (wsL_law_r3 ++ (wsL_law_r4 ++ (wsL_law_r5 ++ (wsL_law_r6 ++ (wsL_law_r7 ++ (wsL_law_r8 ++ wsL_law_r9)))))))) ++ wsX00 ++ wsX10 ++ ([] : List Cond)
set_option maxRecDepth 20000 in
theorem wsL_law_in : ∀ w ∈ wsL_law, w ∈ lw_tbl := fun w h => (goodIn_p wsL_law [22, 25, 29, 32, 155, 160, 57, 61, 185, 65, 189, 70, 194, 74, 198, 78, 81, 87, 90, 93, 97, 102, 106, 109, 113, 117, 202, 205, 208, 211, 215, 219, 223, 227, 231, 234, 123, 243, 127, 247, 131, 251, 135, 139, 144, 148] (by decide +kernel) (by decide +kernel) w h).1
theorem inlX0 : ∀ w ∈ wsX00, w ∈ wsL_law := fun _ h => List.mem_append_left _ (List.mem_append_left _ (List.mem_append_right _ h))
theorem inX0 : ∀ w ∈ wsX00, w ∈ lw_tbl := fun w h => wsL_law_in w (inlX0 w h)
theorem inlX1 : ∀ w ∈ wsX10, w ∈ wsL_law := fun _ h => List.mem_append_left _ (List.mem_append_right _ h)
theorem inX1 : ∀ w ∈ wsX10, w ∈ lw_tbl := fun w h => wsL_law_in w (inlX1 w h)
theorem inJ7 : ∀ w ∈ wsJ70, w ∈ lw_tbl := by decide +kernel
set_option maxRecDepth 20000 in
theorem ggX0_init_X0_startOver : GoodIn wsX0_init wsX0_startOver := goodIn_r _ [10, 5, 11, 12, 13, 14, 15, 16, 17, 18, 19, 20, 21, 22, 23, 24, 25, 26] (by decide +kernel) (by decide +kernel)
set_option maxRecDepth 20000 in
theorem gX0_init_X0_startOver : GoodIn wsX0_init (wsV RX0 13 RX0 yX0_startOver wsX0_startOver) := goodIn_app (goodIn_of _ (by decide +kernel)) ggX0_init_X0_startOver
theorem dX0_init_0 : decode cX0_init 0 = .ok (.aload_n 0, 1) := by decide +kernel
theorem dX0_init_1 : decode cX0_init 1 = .ok (.invokespecial 3, 3) := by decide +kernel
theorem dX0_init_4 : decode cX0_init 4 = .ok (.aload_n 0, 1) := by decide +kernel
theorem dX0_init_5 : decode cX0_init 5 = .ok (.bipush 29, 2) := by decide +kernel
theorem dX0_init_7 : decode cX0_init 7 = .ok (.newarray .int, 2) := by decide +kernel
theorem dX0_init_9 : decode cX0_init 9 = .ok (.putfield 9, 3) := by decide +kernel
theorem dX0_init_12 : decode cX0_init 12 = .ok (.aload_n 0, 1) := by decide +kernel
theorem dX0_init_13 : decode cX0_init 13 = .ok (.invokevirtual 13, 3) := by decide +kernel
theorem dX0_init_16 : decode cX0_init 16 = .ok (.return_, 1) := by decide +kernel
set_option maxRecDepth 20000 in
theorem ggX0_begin_X0_startOver : GoodIn wsX0_begin wsX0_startOver := goodIn_r _ [5, 6, 7, 8, 9, 10, 11, 12, 13, 14, 15, 16, 17, 18, 19, 20, 21, 22] (by decide +kernel) (by decide +kernel)
set_option maxRecDepth 20000 in
theorem gX0_begin_X0_startOver : GoodIn wsX0_begin (wsV RX0 13 RX0 yX0_startOver wsX0_startOver) := goodIn_app (goodIn_of _ (by decide +kernel)) ggX0_begin_X0_startOver
theorem dX0_begin_0 : decode cX0_begin 0 = .ok (.aload_n 0, 1) := by decide +kernel
theorem dX0_begin_1 : decode cX0_begin 1 = .ok (.invokevirtual 13, 3) := by decide +kernel
theorem dX0_begin_4 : decode cX0_begin 4 = .ok (.return_, 1) := by decide +kernel
theorem dX0_mode_0 : decode cX0_mode 0 = .ok (.iload_n 1, 1) := by decide +kernel
theorem dX0_mode_1 : decode cX0_mode 1 = .ok (.ifCond .lt 8, 3) := by decide +kernel
theorem dX0_mode_4 : decode cX0_mode 4 = .ok (.iload_n 1, 1) := by decide +kernel
theorem dX0_mode_5 : decode cX0_mode 5 = .ok (.iconst 3, 1) := by decide +kernel
theorem dX0_mode_6 : decode cX0_mode 6 = .ok (.if_icmp .le 5, 3) := by decide +kernel
theorem dX0_mode_9 : decode cX0_mode 9 = .ok (.iconst (-1), 1) := by decide +kernel
theorem dX0_mode_10 : decode cX0_mode 10 = .ok (.ireturn, 1) := by decide +kernel
theorem dX0_mode_11 : decode cX0_mode 11 = .ok (.aload_n 0, 1) := by decide +kernel
theorem dX0_mode_12 : decode cX0_mode 12 = .ok (.getfield 16, 3) := by decide +kernel
theorem dX0_mode_15 : decode cX0_mode 15 = .ok (.istore_n 2, 1) := by decide +kernel
theorem dX0_mode_16 : decode cX0_mode 16 = .ok (.aload_n 0, 1) := by decide +kernel
theorem dX0_mode_17 : decode cX0_mode 17 = .ok (.iload_n 1, 1) := by decide +kernel
theorem dX0_mode_18 : decode cX0_mode 18 = .ok (.putfield 16, 3) := by decide +kernel
theorem dX0_mode_21 : decode cX0_mode 21 = .ok (.iload_n 2, 1) := by decide +kernel
theorem dX0_mode_22 : decode cX0_mode 22 = .ok (.ireturn, 1) := by decide +kernel
theorem dX0_time_0 : decode cX0_time 0 = .ok (.lload_n 1, 1) := by decide +kernel
theorem dX0_time_1 : decode cX0_time 1 = .ok (.lconst 0, 1) := by decide +kernel
theorem dX0_time_2 : decode cX0_time 2 = .ok (.lcmp, 1) := by decide +kernel
theorem dX0_time_3 : decode cX0_time 3 = .ok (.ifCond .ge 7, 3) := by decide +kernel
theorem dX0_time_6 : decode cX0_time 6 = .ok (.ldc2_w 20, 3) := by decide +kernel
theorem dX0_time_9 : decode cX0_time 9 = .ok (.lreturn, 1) := by decide +kernel
theorem dX0_time_10 : decode cX0_time 10 = .ok (.aload_n 0, 1) := by decide +kernel
theorem dX0_time_11 : decode cX0_time 11 = .ok (.getfield 22, 3) := by decide +kernel
theorem dX0_time_14 : decode cX0_time 14 = .ok (.lstore_n 3, 1) := by decide +kernel
theorem dX0_time_15 : decode cX0_time 15 = .ok (.aload_n 0, 1) := by decide +kernel
theorem dX0_time_16 : decode cX0_time 16 = .ok (.lload_n 1, 1) := by decide +kernel
theorem dX0_time_17 : decode cX0_time 17 = .ok (.putfield 22, 3) := by decide +kernel
theorem dX0_time_20 : decode cX0_time 20 = .ok (.lload_n 3, 1) := by decide +kernel
theorem dX0_time_21 : decode cX0_time 21 = .ok (.lreturn, 1) := by decide +kernel
theorem dX0_alarm_0 : decode cX0_alarm 0 = .ok (.aload_n 0, 1) := by decide +kernel
theorem dX0_alarm_1 : decode cX0_alarm 1 = .ok (.getfield 26, 3) := by decide +kernel
theorem dX0_alarm_4 : decode cX0_alarm 4 = .ok (.lstore_n 3, 1) := by decide +kernel
theorem dX0_alarm_5 : decode cX0_alarm 5 = .ok (.aload_n 0, 1) := by decide +kernel
theorem dX0_alarm_6 : decode cX0_alarm 6 = .ok (.lload_n 1, 1) := by decide +kernel
theorem dX0_alarm_7 : decode cX0_alarm 7 = .ok (.lconst 0, 1) := by decide +kernel
theorem dX0_alarm_8 : decode cX0_alarm 8 = .ok (.lcmp, 1) := by decide +kernel
theorem dX0_alarm_9 : decode cX0_alarm 9 = .ok (.ifCond .ge 9, 3) := by decide +kernel
theorem dX0_alarm_12 : decode cX0_alarm 12 = .ok (.ldc2_w 29, 3) := by decide +kernel
theorem dX0_alarm_15 : decode cX0_alarm 15 = .ok (.goto 4, 3) := by decide +kernel
theorem dX0_alarm_18 : decode cX0_alarm 18 = .ok (.lload_n 1, 1) := by decide +kernel
theorem dX0_alarm_19 : decode cX0_alarm 19 = .ok (.putfield 26, 3) := by decide +kernel
theorem dX0_alarm_22 : decode cX0_alarm 22 = .ok (.lload_n 3, 1) := by decide +kernel
theorem dX0_alarm_23 : decode cX0_alarm 23 = .ok (.lreturn, 1) := by decide +kernel
theorem dX0_line_0 : decode cX0_line 0 = .ok (.aload_n 0, 1) := by decide +kernel
theorem dX0_line_1 : decode cX0_line 1 = .ok (.getfield 31, 3) := by decide +kernel
theorem dX0_line_4 : decode cX0_line 4 = .ok (.istore_n 2, 1) := by decide +kernel
theorem dX0_line_5 : decode cX0_line 5 = .ok (.aload_n 0, 1) := by decide +kernel
theorem dX0_line_6 : decode cX0_line 6 = .ok (.iload_n 1, 1) := by decide +kernel
theorem dX0_line_7 : decode cX0_line 7 = .ok (.putfield 31, 3) := by decide +kernel
theorem dX0_line_10 : decode cX0_line 10 = .ok (.iload_n 2, 1) := by decide +kernel
theorem dX0_line_11 : decode cX0_line 11 = .ok (.ireturn, 1) := by decide +kernel
set_option maxRecDepth 20000 in
theorem ggX0_access_X0_slotOf : GoodIn wsX0_access wsX0_slotOf := goodIn_r _ [6, 7] (by decide +kernel) (by decide +kernel)
set_option maxRecDepth 20000 in
theorem gX0_access_X0_slotOf : GoodIn wsX0_access (va_wsS RX0 35 yX0_slotOf wsX0_slotOf) := goodIn_app (goodIn_of _ (by decide +kernel)) ggX0_access_X0_slotOf
set_option maxRecDepth 20000 in
theorem ggX0_access_X0_permission : GoodIn wsX0_access wsX0_permission := goodIn_r _ [11, 1, 12, 13, 5, 14, 15, 16, 17, 18, 19, 20, 21, 22, 23, 47, 48, 49, 50, 51, 52] (by decide +kernel) (by decide +kernel)
set_option maxRecDepth 20000 in
theorem gX0_access_X0_permission : GoodIn wsX0_access (wsV RX0 39 RX0 yX0_permission wsX0_permission) := goodIn_app (goodIn_of _ (by decide +kernel)) ggX0_access_X0_permission
set_option maxRecDepth 20000 in
theorem ggX0_access_X0_isOfS : GoodIn wsX0_access wsX0_isOfS := goodIn_r _ [17] (by decide +kernel) (by decide +kernel)
set_option maxRecDepth 20000 in
theorem gX0_access_X0_isOfS : GoodIn wsX0_access (va_wsS RX0 43 yX0_isOfS wsX0_isOfS) := goodIn_app (goodIn_of _ (by decide +kernel)) ggX0_access_X0_isOfS
set_option maxRecDepth 20000 in
theorem ggX0_access_X0_told : GoodIn wsX0_access wsX0_told := goodIn_r _ [27, 22, 28, 29, 30, 31, 5, 32, 33, 34, 47, 48, 49, 50, 51, 52] (by decide +kernel) (by decide +kernel)
set_option maxRecDepth 20000 in
theorem gX0_access_X0_told : GoodIn wsX0_access (wsV RX0 47 RX0 yX0_told wsX0_told) := goodIn_app (goodIn_of _ (by decide +kernel)) ggX0_access_X0_told
set_option maxRecDepth 20000 in
theorem ggX0_access_X0_written : GoodIn wsX0_access wsX0_written := goodIn_r _ [37] (by decide +kernel) (by decide +kernel)
set_option maxRecDepth 20000 in
theorem gX0_access_X0_written : GoodIn wsX0_access (va_wsS RX0 50 yX0_written wsX0_written) := goodIn_app (goodIn_of _ (by decide +kernel)) ggX0_access_X0_written
set_option maxRecDepth 20000 in
theorem ggX0_access_X0_put : GoodIn wsX0_access wsX0_put := goodIn_r _ [41, 22, 42, 43, 44, 45, 5, 46, 47, 48, 49, 50, 51, 52] (by decide +kernel) (by decide +kernel)
set_option maxRecDepth 20000 in
theorem gX0_access_X0_put : GoodIn wsX0_access (wsV RX0 54 RX0 yX0_put wsX0_put) := goodIn_app (goodIn_of _ (by decide +kernel)) ggX0_access_X0_put
theorem dX0_access_0 : decode cX0_access 0 = .ok (.iload_n 2, 1) := by decide +kernel
theorem dX0_access_1 : decode cX0_access 1 = .ok (.ifCond .lt 8, 3) := by decide +kernel
theorem dX0_access_4 : decode cX0_access 4 = .ok (.iload_n 2, 1) := by decide +kernel
theorem dX0_access_5 : decode cX0_access 5 = .ok (.iconst 3, 1) := by decide +kernel
theorem dX0_access_6 : decode cX0_access 6 = .ok (.if_icmp .le 5, 3) := by decide +kernel
theorem dX0_access_9 : decode cX0_access 9 = .ok (.iconst (-1), 1) := by decide +kernel
theorem dX0_access_10 : decode cX0_access 10 = .ok (.ireturn, 1) := by decide +kernel
theorem dX0_access_11 : decode cX0_access 11 = .ok (.iload_n 1, 1) := by decide +kernel
theorem dX0_access_12 : decode cX0_access 12 = .ok (.invokestatic 35, 3) := by decide +kernel
theorem dX0_access_15 : decode cX0_access 15 = .ok (.istore 4, 2) := by decide +kernel
theorem dX0_access_17 : decode cX0_access 17 = .ok (.aload_n 0, 1) := by decide +kernel
theorem dX0_access_18 : decode cX0_access 18 = .ok (.iload 4, 2) := by decide +kernel
theorem dX0_access_20 : decode cX0_access 20 = .ok (.iload_n 2, 1) := by decide +kernel
theorem dX0_access_21 : decode cX0_access 21 = .ok (.ifCond .eq 7, 3) := by decide +kernel
theorem dX0_access_24 : decode cX0_access 24 = .ok (.iconst 1, 1) := by decide +kernel
theorem dX0_access_25 : decode cX0_access 25 = .ok (.goto 4, 3) := by decide +kernel
theorem dX0_access_28 : decode cX0_access 28 = .ok (.iconst 0, 1) := by decide +kernel
theorem dX0_access_29 : decode cX0_access 29 = .ok (.invokevirtual 39, 3) := by decide +kernel
theorem dX0_access_32 : decode cX0_access 32 = .ok (.istore 5, 2) := by decide +kernel
theorem dX0_access_34 : decode cX0_access 34 = .ok (.iload 5, 2) := by decide +kernel
theorem dX0_access_36 : decode cX0_access 36 = .ok (.ifCond .eq 6, 3) := by decide +kernel
theorem dX0_access_39 : decode cX0_access 39 = .ok (.iload 5, 2) := by decide +kernel
theorem dX0_access_41 : decode cX0_access 41 = .ok (.ireturn, 1) := by decide +kernel
theorem dX0_access_42 : decode cX0_access 42 = .ok (.aload_n 0, 1) := by decide +kernel
theorem dX0_access_43 : decode cX0_access 43 = .ok (.getfield 16, 3) := by decide +kernel
theorem dX0_access_46 : decode cX0_access 46 = .ok (.iconst 3, 1) := by decide +kernel
theorem dX0_access_47 : decode cX0_access 47 = .ok (.if_icmp .ne 19, 3) := by decide +kernel
theorem dX0_access_50 : decode cX0_access 50 = .ok (.iload 4, 2) := by decide +kernel
theorem dX0_access_52 : decode cX0_access 52 = .ok (.invokestatic 43, 3) := by decide +kernel
theorem dX0_access_55 : decode cX0_access 55 = .ok (.ifCond .eq 11, 3) := by decide +kernel
theorem dX0_access_58 : decode cX0_access 58 = .ok (.iload 4, 2) := by decide +kernel
theorem dX0_access_60 : decode cX0_access 60 = .ok (.bipush 9, 2) := by decide +kernel
theorem dX0_access_62 : decode cX0_access 62 = .ok (.iadd, 1) := by decide +kernel
theorem dX0_access_63 : decode cX0_access 63 = .ok (.goto 5, 3) := by decide +kernel
theorem dX0_access_66 : decode cX0_access 66 = .ok (.iload 4, 2) := by decide +kernel
theorem dX0_access_68 : decode cX0_access 68 = .ok (.istore 6, 2) := by decide +kernel
theorem dX0_access_70 : decode cX0_access 70 = .ok (.aload_n 0, 1) := by decide +kernel
theorem dX0_access_71 : decode cX0_access 71 = .ok (.iload 6, 2) := by decide +kernel
theorem dX0_access_73 : decode cX0_access 73 = .ok (.invokevirtual 47, 3) := by decide +kernel
theorem dX0_access_76 : decode cX0_access 76 = .ok (.istore 7, 2) := by decide +kernel
theorem dX0_access_78 : decode cX0_access 78 = .ok (.iload_n 2, 1) := by decide +kernel
theorem dX0_access_79 : decode cX0_access 79 = .ok (.ifCond .eq 16, 3) := by decide +kernel
theorem dX0_access_82 : decode cX0_access 82 = .ok (.aload_n 0, 1) := by decide +kernel
theorem dX0_access_83 : decode cX0_access 83 = .ok (.iload 6, 2) := by decide +kernel
theorem dX0_access_85 : decode cX0_access 85 = .ok (.iload 7, 2) := by decide +kernel
theorem dX0_access_87 : decode cX0_access 87 = .ok (.iload_n 2, 1) := by decide +kernel
theorem dX0_access_88 : decode cX0_access 88 = .ok (.iload_n 3, 1) := by decide +kernel
theorem dX0_access_89 : decode cX0_access 89 = .ok (.invokestatic 50, 3) := by decide +kernel
theorem dX0_access_92 : decode cX0_access 92 = .ok (.invokevirtual 54, 3) := by decide +kernel
theorem dX0_access_95 : decode cX0_access 95 = .ok (.aload_n 0, 1) := by decide +kernel
theorem dX0_access_96 : decode cX0_access 96 = .ok (.iload 7, 2) := by decide +kernel
theorem dX0_access_98 : decode cX0_access 98 = .ok (.putfield 58, 3) := by decide +kernel
theorem dX0_access_101 : decode cX0_access 101 = .ok (.iconst 0, 1) := by decide +kernel
theorem dX0_access_102 : decode cX0_access 102 = .ok (.ireturn, 1) := by decide +kernel
theorem dX0_old_0 : decode cX0_old 0 = .ok (.aload_n 0, 1) := by decide +kernel
theorem dX0_old_1 : decode cX0_old 1 = .ok (.getfield 58, 3) := by decide +kernel
theorem dX0_old_4 : decode cX0_old 4 = .ok (.ireturn, 1) := by decide +kernel
set_option maxRecDepth 20000 in
theorem ggX0_control_X0_slotOf : GoodIn wsX0_control wsX0_slotOf := goodIn_r _ [4, 5] (by decide +kernel) (by decide +kernel)
set_option maxRecDepth 20000 in
theorem gX0_control_X0_slotOf : GoodIn wsX0_control (va_wsS RX0 35 yX0_slotOf wsX0_slotOf) := goodIn_app (goodIn_of _ (by decide +kernel)) ggX0_control_X0_slotOf
set_option maxRecDepth 20000 in
theorem ggX0_control_X0_told : GoodIn wsX0_control wsX0_told := goodIn_r _ [9, 10, 11, 12, 13, 14, 3, 15, 16, 17, 18, 19, 20, 21, 22, 23] (by decide +kernel) (by decide +kernel)
set_option maxRecDepth 20000 in
theorem gX0_control_X0_told : GoodIn wsX0_control (wsV RX0 47 RX0 yX0_told wsX0_told) := goodIn_app (goodIn_of _ (by decide +kernel)) ggX0_control_X0_told
theorem dX0_control_0 : decode cX0_control 0 = .ok (.aload_n 0, 1) := by decide +kernel
theorem dX0_control_1 : decode cX0_control 1 = .ok (.iload_n 1, 1) := by decide +kernel
theorem dX0_control_2 : decode cX0_control 2 = .ok (.invokestatic 35, 3) := by decide +kernel
theorem dX0_control_5 : decode cX0_control 5 = .ok (.invokevirtual 47, 3) := by decide +kernel
theorem dX0_control_8 : decode cX0_control 8 = .ok (.ireturn, 1) := by decide +kernel
set_option maxRecDepth 20000 in
theorem ggX0_used_X0_told : GoodIn wsX0_used wsX0_told := goodIn_r _ [5, 6, 7, 8, 9, 10, 4, 11, 12, 13, 14, 15, 16, 17, 18, 19] (by decide +kernel) (by decide +kernel)
set_option maxRecDepth 20000 in
theorem gX0_used_X0_told : GoodIn wsX0_used (wsV RX0 47 RX0 yX0_told wsX0_told) := goodIn_app (goodIn_of _ (by decide +kernel)) ggX0_used_X0_told
theorem dX0_used_0 : decode cX0_used 0 = .ok (.iconst 0, 1) := by decide +kernel
theorem dX0_used_1 : decode cX0_used 1 = .ok (.istore_n 1, 1) := by decide +kernel
theorem dX0_used_2 : decode cX0_used 2 = .ok (.iconst 0, 1) := by decide +kernel
theorem dX0_used_3 : decode cX0_used 3 = .ok (.istore_n 2, 1) := by decide +kernel
theorem dX0_used_4 : decode cX0_used 4 = .ok (.iload_n 2, 1) := by decide +kernel
theorem dX0_used_5 : decode cX0_used 5 = .ok (.bipush 29, 2) := by decide +kernel
theorem dX0_used_7 : decode cX0_used 7 = .ok (.if_icmp .ge 20, 3) := by decide +kernel
theorem dX0_used_10 : decode cX0_used 10 = .ok (.aload_n 0, 1) := by decide +kernel
theorem dX0_used_11 : decode cX0_used 11 = .ok (.iload_n 2, 1) := by decide +kernel
theorem dX0_used_12 : decode cX0_used 12 = .ok (.invokevirtual 47, 3) := by decide +kernel
theorem dX0_used_15 : decode cX0_used 15 = .ok (.ifCond .eq 6, 3) := by decide +kernel
theorem dX0_used_18 : decode cX0_used 18 = .ok (.iinc 1 1, 3) := by decide +kernel
theorem dX0_used_21 : decode cX0_used 21 = .ok (.iinc 2 1, 3) := by decide +kernel
theorem dX0_used_24 : decode cX0_used 24 = .ok (.goto (-20), 3) := by decide +kernel
theorem dX0_used_27 : decode cX0_used 27 = .ok (.iload_n 1, 1) := by decide +kernel
theorem dX0_used_28 : decode cX0_used 28 = .ok (.ireturn, 1) := by decide +kernel
set_option maxRecDepth 20000 in
theorem ggX0_due_X0_dueForS : GoodIn wsX0_due wsX0_dueForS := goodIn_r _ [5, 6, 7, 8, 9, 10, 11, 4, 12, 13, 14, 15, 16, 17, 18, 24, 25, 26, 27, 28, 29] (by decide +kernel) (by decide +kernel)
set_option maxRecDepth 20000 in
theorem gX0_due_X0_dueForS : GoodIn wsX0_due (wsV RX0 61 RX0 yX0_dueForS wsX0_dueForS) := goodIn_app (goodIn_of _ (by decide +kernel)) ggX0_due_X0_dueForS
set_option maxRecDepth 20000 in
theorem ggX0_due_X0_dueForVs : GoodIn wsX0_due wsX0_dueForVs := goodIn_r _ [22, 6, 7, 23, 16, 17, 4, 18, 24, 25, 26, 27, 28, 29] (by decide +kernel) (by decide +kernel)
set_option maxRecDepth 20000 in
theorem gX0_due_X0_dueForVs : GoodIn wsX0_due (wsV RX0 65 RX0 yX0_dueForVs wsX0_dueForVs) := goodIn_app (goodIn_of _ (by decide +kernel)) ggX0_due_X0_dueForVs
theorem dX0_due_0 : decode cX0_due 0 = .ok (.aload_n 0, 1) := by decide +kernel
theorem dX0_due_1 : decode cX0_due 1 = .ok (.invokevirtual 61, 3) := by decide +kernel
theorem dX0_due_4 : decode cX0_due 4 = .ok (.istore_n 1, 1) := by decide +kernel
theorem dX0_due_5 : decode cX0_due 5 = .ok (.iload_n 1, 1) := by decide +kernel
theorem dX0_due_6 : decode cX0_due 6 = .ok (.iconst (-1), 1) := by decide +kernel
theorem dX0_due_7 : decode cX0_due 7 = .ok (.if_icmp .eq 7, 3) := by decide +kernel
theorem dX0_due_10 : decode cX0_due 10 = .ok (.iload_n 1, 1) := by decide +kernel
theorem dX0_due_11 : decode cX0_due 11 = .ok (.goto 7, 3) := by decide +kernel
theorem dX0_due_14 : decode cX0_due 14 = .ok (.aload_n 0, 1) := by decide +kernel
theorem dX0_due_15 : decode cX0_due 15 = .ok (.invokevirtual 65, 3) := by decide +kernel
theorem dX0_due_18 : decode cX0_due 18 = .ok (.ireturn, 1) := by decide +kernel
set_option maxRecDepth 20000 in
theorem ggX0_startOver_J7_fill_53178 : GoodIn wsX0_startOver wsJ7_fill_53178 := goodIn_r _ [11] (by decide +kernel) (by decide +kernel)
set_option maxRecDepth 20000 in
theorem gX0_startOver_J7_fill_53178 : GoodIn wsX0_startOver (va_wsS RX0 68 yJ7_fill_53178 wsJ7_fill_53178) := goodIn_app (goodIn_of _ (by decide +kernel)) ggX0_startOver_J7_fill_53178
theorem dX0_startOver_0 : decode cX0_startOver 0 = .ok (.aload_n 0, 1) := by decide +kernel
theorem dX0_startOver_1 : decode cX0_startOver 1 = .ok (.getfield 9, 3) := by decide +kernel
theorem dX0_startOver_4 : decode cX0_startOver 4 = .ok (.iconst 0, 1) := by decide +kernel
theorem dX0_startOver_5 : decode cX0_startOver 5 = .ok (.invokestatic 68, 3) := by decide +kernel
theorem dX0_startOver_8 : decode cX0_startOver 8 = .ok (.aload_n 0, 1) := by decide +kernel
theorem dX0_startOver_9 : decode cX0_startOver 9 = .ok (.iconst 1, 1) := by decide +kernel
theorem dX0_startOver_10 : decode cX0_startOver 10 = .ok (.putfield 16, 3) := by decide +kernel
theorem dX0_startOver_13 : decode cX0_startOver 13 = .ok (.aload_n 0, 1) := by decide +kernel
theorem dX0_startOver_14 : decode cX0_startOver 14 = .ok (.lconst 0, 1) := by decide +kernel
theorem dX0_startOver_15 : decode cX0_startOver 15 = .ok (.putfield 22, 3) := by decide +kernel
theorem dX0_startOver_18 : decode cX0_startOver 18 = .ok (.aload_n 0, 1) := by decide +kernel
theorem dX0_startOver_19 : decode cX0_startOver 19 = .ok (.ldc2_w 29, 3) := by decide +kernel
theorem dX0_startOver_22 : decode cX0_startOver 22 = .ok (.putfield 26, 3) := by decide +kernel
theorem dX0_startOver_25 : decode cX0_startOver 25 = .ok (.aload_n 0, 1) := by decide +kernel
theorem dX0_startOver_26 : decode cX0_startOver 26 = .ok (.iconst 0, 1) := by decide +kernel
theorem dX0_startOver_27 : decode cX0_startOver 27 = .ok (.putfield 31, 3) := by decide +kernel
theorem dX0_startOver_30 : decode cX0_startOver 30 = .ok (.aload_n 0, 1) := by decide +kernel
theorem dX0_startOver_31 : decode cX0_startOver 31 = .ok (.iconst 0, 1) := by decide +kernel
theorem dX0_startOver_32 : decode cX0_startOver 32 = .ok (.putfield 58, 3) := by decide +kernel
theorem dX0_startOver_35 : decode cX0_startOver 35 = .ok (.return_, 1) := by decide +kernel
theorem dX0_slotOf_0 : decode cX0_slotOf 0 = .ok (.iconst 0, 1) := by decide +kernel
theorem dX0_slotOf_1 : decode cX0_slotOf 1 = .ok (.istore_n 1, 1) := by decide +kernel
theorem dX0_slotOf_2 : decode cX0_slotOf 2 = .ok (.iload_n 1, 1) := by decide +kernel
theorem dX0_slotOf_3 : decode cX0_slotOf 3 = .ok (.getstatic 74, 3) := by decide +kernel
theorem dX0_slotOf_6 : decode cX0_slotOf 6 = .ok (.arraylength, 1) := by decide +kernel
theorem dX0_slotOf_7 : decode cX0_slotOf 7 = .ok (.if_icmp .ge 20, 3) := by decide +kernel
theorem dX0_slotOf_10 : decode cX0_slotOf 10 = .ok (.getstatic 74, 3) := by decide +kernel
theorem dX0_slotOf_13 : decode cX0_slotOf 13 = .ok (.iload_n 1, 1) := by decide +kernel
theorem dX0_slotOf_14 : decode cX0_slotOf 14 = .ok (.iaload, 1) := by decide +kernel
theorem dX0_slotOf_15 : decode cX0_slotOf 15 = .ok (.iload_n 0, 1) := by decide +kernel
theorem dX0_slotOf_16 : decode cX0_slotOf 16 = .ok (.if_icmp .ne 5, 3) := by decide +kernel
theorem dX0_slotOf_19 : decode cX0_slotOf 19 = .ok (.iload_n 1, 1) := by decide +kernel
theorem dX0_slotOf_20 : decode cX0_slotOf 20 = .ok (.ireturn, 1) := by decide +kernel
theorem dX0_slotOf_21 : decode cX0_slotOf 21 = .ok (.iinc 1 1, 3) := by decide +kernel
theorem dX0_slotOf_24 : decode cX0_slotOf 24 = .ok (.goto (-22), 3) := by decide +kernel
theorem dX0_slotOf_27 : decode cX0_slotOf 27 = .ok (.iconst (-1), 1) := by decide +kernel
theorem dX0_slotOf_28 : decode cX0_slotOf 28 = .ok (.ireturn, 1) := by decide +kernel
theorem dX0_isOfS_0 : decode cX0_isOfS 0 = .ok (.iload_n 0, 1) := by decide +kernel
theorem dX0_isOfS_1 : decode cX0_isOfS 1 = .ok (.ifCond .lt 13, 3) := by decide +kernel
theorem dX0_isOfS_4 : decode cX0_isOfS 4 = .ok (.iload_n 0, 1) := by decide +kernel
theorem dX0_isOfS_5 : decode cX0_isOfS 5 = .ok (.bipush 9, 2) := by decide +kernel
theorem dX0_isOfS_7 : decode cX0_isOfS 7 = .ok (.if_icmp .ge 7, 3) := by decide +kernel
theorem dX0_isOfS_10 : decode cX0_isOfS 10 = .ok (.iconst 1, 1) := by decide +kernel
theorem dX0_isOfS_11 : decode cX0_isOfS 11 = .ok (.goto 4, 3) := by decide +kernel
theorem dX0_isOfS_14 : decode cX0_isOfS 14 = .ok (.iconst 0, 1) := by decide +kernel
theorem dX0_isOfS_15 : decode cX0_isOfS 15 = .ok (.ireturn, 1) := by decide +kernel
theorem dX0_isOfTime_0 : decode cX0_isOfTime 0 = .ok (.iload_n 0, 1) := by decide +kernel
theorem dX0_isOfTime_1 : decode cX0_isOfTime 1 = .ok (.bipush 27, 2) := by decide +kernel
theorem dX0_isOfTime_3 : decode cX0_isOfTime 3 = .ok (.if_icmp .eq 9, 3) := by decide +kernel
theorem dX0_isOfTime_6 : decode cX0_isOfTime 6 = .ok (.iload_n 0, 1) := by decide +kernel
theorem dX0_isOfTime_7 : decode cX0_isOfTime 7 = .ok (.bipush 28, 2) := by decide +kernel
theorem dX0_isOfTime_9 : decode cX0_isOfTime 9 = .ok (.if_icmp .ne 7, 3) := by decide +kernel
theorem dX0_isOfTime_12 : decode cX0_isOfTime 12 = .ok (.iconst 1, 1) := by decide +kernel
theorem dX0_isOfTime_13 : decode cX0_isOfTime 13 = .ok (.goto 4, 3) := by decide +kernel
theorem dX0_isOfTime_16 : decode cX0_isOfTime 16 = .ok (.iconst 0, 1) := by decide +kernel
theorem dX0_isOfTime_17 : decode cX0_isOfTime 17 = .ok (.ireturn, 1) := by decide +kernel
set_option maxRecDepth 20000 in
theorem ggX0_permission_X0_isOfTime : GoodIn wsX0_permission wsX0_isOfTime := goodIn_r _ [5] (by decide +kernel) (by decide +kernel)
set_option maxRecDepth 20000 in
theorem gX0_permission_X0_isOfTime : GoodIn wsX0_permission (va_wsS RX0 77 yX0_isOfTime wsX0_isOfTime) := goodIn_app (goodIn_of _ (by decide +kernel)) ggX0_permission_X0_isOfTime
set_option maxRecDepth 20000 in
theorem ggX0_permission_X0_isOfS : GoodIn wsX0_permission wsX0_isOfS := goodIn_r _ [8] (by decide +kernel) (by decide +kernel)
set_option maxRecDepth 20000 in
theorem gX0_permission_X0_isOfS : GoodIn wsX0_permission (va_wsS RX0 43 yX0_isOfS wsX0_isOfS) := goodIn_app (goodIn_of _ (by decide +kernel)) ggX0_permission_X0_isOfS
set_option maxRecDepth 20000 in
theorem ggX0_permission_X0_isTrapped : GoodIn wsX0_permission wsX0_isTrapped := goodIn_r _ [12, 13, 14, 15, 16, 17, 18, 19, 20] (by decide +kernel) (by decide +kernel)
set_option maxRecDepth 20000 in
theorem gX0_permission_X0_isTrapped : GoodIn wsX0_permission (wsV RX0 80 RX0 yX0_isTrapped wsX0_isTrapped) := goodIn_app (goodIn_of _ (by decide +kernel)) ggX0_permission_X0_isTrapped
theorem dX0_permission_0 : decode cX0_permission 0 = .ok (.iload_n 1, 1) := by decide +kernel
theorem dX0_permission_1 : decode cX0_permission 1 = .ok (.iconst (-1), 1) := by decide +kernel
theorem dX0_permission_2 : decode cX0_permission 2 = .ok (.if_icmp .eq 14, 3) := by decide +kernel
theorem dX0_permission_5 : decode cX0_permission 5 = .ok (.iload_n 2, 1) := by decide +kernel
theorem dX0_permission_6 : decode cX0_permission 6 = .ok (.ifCond .eq 12, 3) := by decide +kernel
theorem dX0_permission_9 : decode cX0_permission 9 = .ok (.iload_n 1, 1) := by decide +kernel
theorem dX0_permission_10 : decode cX0_permission 10 = .ok (.invokestatic 77, 3) := by decide +kernel
theorem dX0_permission_13 : decode cX0_permission 13 = .ok (.ifCond .eq 5, 3) := by decide +kernel
theorem dX0_permission_16 : decode cX0_permission 16 = .ok (.iconst 2, 1) := by decide +kernel
theorem dX0_permission_17 : decode cX0_permission 17 = .ok (.ireturn, 1) := by decide +kernel
theorem dX0_permission_18 : decode cX0_permission 18 = .ok (.aload_n 0, 1) := by decide +kernel
theorem dX0_permission_19 : decode cX0_permission 19 = .ok (.getfield 16, 3) := by decide +kernel
theorem dX0_permission_22 : decode cX0_permission 22 = .ok (.iconst 1, 1) := by decide +kernel
theorem dX0_permission_23 : decode cX0_permission 23 = .ok (.if_icmp .eq 10, 3) := by decide +kernel
theorem dX0_permission_26 : decode cX0_permission 26 = .ok (.iload_n 1, 1) := by decide +kernel
theorem dX0_permission_27 : decode cX0_permission 27 = .ok (.invokestatic 77, 3) := by decide +kernel
theorem dX0_permission_30 : decode cX0_permission 30 = .ok (.ifCond .eq 5, 3) := by decide +kernel
theorem dX0_permission_33 : decode cX0_permission 33 = .ok (.iconst 0, 1) := by decide +kernel
theorem dX0_permission_34 : decode cX0_permission 34 = .ok (.ireturn, 1) := by decide +kernel
theorem dX0_permission_35 : decode cX0_permission 35 = .ok (.aload_n 0, 1) := by decide +kernel
theorem dX0_permission_36 : decode cX0_permission 36 = .ok (.getfield 16, 3) := by decide +kernel
theorem dX0_permission_39 : decode cX0_permission 39 = .ok (.ifCond .ne 5, 3) := by decide +kernel
theorem dX0_permission_42 : decode cX0_permission 42 = .ok (.iconst 2, 1) := by decide +kernel
theorem dX0_permission_43 : decode cX0_permission 43 = .ok (.ireturn, 1) := by decide +kernel
theorem dX0_permission_44 : decode cX0_permission 44 = .ok (.aload_n 0, 1) := by decide +kernel
theorem dX0_permission_45 : decode cX0_permission 45 = .ok (.getfield 16, 3) := by decide +kernel
theorem dX0_permission_48 : decode cX0_permission 48 = .ok (.iconst 3, 1) := by decide +kernel
theorem dX0_permission_49 : decode cX0_permission 49 = .ok (.if_icmp .ne 22, 3) := by decide +kernel
theorem dX0_permission_52 : decode cX0_permission 52 = .ok (.iload_n 1, 1) := by decide +kernel
theorem dX0_permission_53 : decode cX0_permission 53 = .ok (.invokestatic 43, 3) := by decide +kernel
theorem dX0_permission_56 : decode cX0_permission 56 = .ok (.ifCond .eq 15, 3) := by decide +kernel
theorem dX0_permission_59 : decode cX0_permission 59 = .ok (.aload_n 0, 1) := by decide +kernel
theorem dX0_permission_60 : decode cX0_permission 60 = .ok (.iload_n 1, 1) := by decide +kernel
theorem dX0_permission_61 : decode cX0_permission 61 = .ok (.invokevirtual 80, 3) := by decide +kernel
theorem dX0_permission_64 : decode cX0_permission 64 = .ok (.ifCond .ne 7, 3) := by decide +kernel
theorem dX0_permission_67 : decode cX0_permission 67 = .ok (.iconst 0, 1) := by decide +kernel
theorem dX0_permission_68 : decode cX0_permission 68 = .ok (.goto 5, 3) := by decide +kernel
theorem dX0_permission_71 : decode cX0_permission 71 = .ok (.bipush 22, 2) := by decide +kernel
theorem dX0_permission_73 : decode cX0_permission 73 = .ok (.ireturn, 1) := by decide +kernel
theorem dX0_isTrapped_0 : decode cX0_isTrapped 0 = .ok (.iload_n 1, 1) := by decide +kernel
theorem dX0_isTrapped_1 : decode cX0_isTrapped 1 = .ok (.bipush 8, 2) := by decide +kernel
theorem dX0_isTrapped_3 : decode cX0_isTrapped 3 = .ok (.if_icmp .ne 20, 3) := by decide +kernel
theorem dX0_isTrapped_6 : decode cX0_isTrapped 6 = .ok (.aload_n 0, 1) := by decide +kernel
theorem dX0_isTrapped_7 : decode cX0_isTrapped 7 = .ok (.getfield 9, 3) := by decide +kernel
theorem dX0_isTrapped_10 : decode cX0_isTrapped 10 = .ok (.bipush 18, 2) := by decide +kernel
theorem dX0_isTrapped_12 : decode cX0_isTrapped 12 = .ok (.iaload, 1) := by decide +kernel
theorem dX0_isTrapped_13 : decode cX0_isTrapped 13 = .ok (.ldc 83, 2) := by decide +kernel
theorem dX0_isTrapped_15 : decode cX0_isTrapped 15 = .ok (.iand, 1) := by decide +kernel
theorem dX0_isTrapped_16 : decode cX0_isTrapped 16 = .ok (.ifCond .eq 7, 3) := by decide +kernel
theorem dX0_isTrapped_19 : decode cX0_isTrapped 19 = .ok (.iconst 1, 1) := by decide +kernel
theorem dX0_isTrapped_20 : decode cX0_isTrapped 20 = .ok (.goto 4, 3) := by decide +kernel
theorem dX0_isTrapped_23 : decode cX0_isTrapped 23 = .ok (.iconst 0, 1) := by decide +kernel
theorem dX0_isTrapped_24 : decode cX0_isTrapped 24 = .ok (.ireturn, 1) := by decide +kernel
theorem dX0_written_0 : decode cX0_written 0 = .ok (.iload_n 1, 1) := by decide +kernel
theorem dX0_written_1 : decode cX0_written 1 = .ok (.iconst 1, 1) := by decide +kernel
theorem dX0_written_2 : decode cX0_written 2 = .ok (.if_icmp .ne 5, 3) := by decide +kernel
theorem dX0_written_5 : decode cX0_written 5 = .ok (.iload_n 2, 1) := by decide +kernel
theorem dX0_written_6 : decode cX0_written 6 = .ok (.ireturn, 1) := by decide +kernel
theorem dX0_written_7 : decode cX0_written 7 = .ok (.iload_n 1, 1) := by decide +kernel
theorem dX0_written_8 : decode cX0_written 8 = .ok (.iconst 2, 1) := by decide +kernel
theorem dX0_written_9 : decode cX0_written 9 = .ok (.if_icmp .ne 9, 3) := by decide +kernel
theorem dX0_written_12 : decode cX0_written 12 = .ok (.iload_n 0, 1) := by decide +kernel
theorem dX0_written_13 : decode cX0_written 13 = .ok (.iload_n 2, 1) := by decide +kernel
theorem dX0_written_14 : decode cX0_written 14 = .ok (.ior, 1) := by decide +kernel
theorem dX0_written_15 : decode cX0_written 15 = .ok (.goto 8, 3) := by decide +kernel
theorem dX0_written_18 : decode cX0_written 18 = .ok (.iload_n 0, 1) := by decide +kernel
theorem dX0_written_19 : decode cX0_written 19 = .ok (.iload_n 2, 1) := by decide +kernel
theorem dX0_written_20 : decode cX0_written 20 = .ok (.iconst (-1), 1) := by decide +kernel
theorem dX0_written_21 : decode cX0_written 21 = .ok (.ixor, 1) := by decide +kernel
theorem dX0_written_22 : decode cX0_written 22 = .ok (.iand, 1) := by decide +kernel
theorem dX0_written_23 : decode cX0_written 23 = .ok (.ireturn, 1) := by decide +kernel
set_option maxRecDepth 20000 in
theorem ggX0_told_X0_pendingForS : GoodIn wsX0_told wsX0_pendingForS := goodIn_r _ [7, 1, 2, 8, 9, 10, 11, 12, 13, 14, 15] (by decide +kernel) (by decide +kernel)
set_option maxRecDepth 20000 in
theorem gX0_told_X0_pendingForS : GoodIn wsX0_told (wsV RX0 84 RX0 yX0_pendingForS wsX0_pendingForS) := goodIn_app (goodIn_of _ (by decide +kernel)) ggX0_told_X0_pendingForS
theorem dX0_told_0 : decode cX0_told 0 = .ok (.iload_n 1, 1) := by decide +kernel
theorem dX0_told_1 : decode cX0_told 1 = .ok (.lookupswitch 123 #[(7, 59), (10, 64), (16, 82), (23, 100), (27, 108), (28, 114)], 59) := by decide +kernel
theorem dX0_told_60 : decode cX0_told 60 = .ok (.aload_n 0, 1) := by decide +kernel
theorem dX0_told_61 : decode cX0_told 61 = .ok (.invokevirtual 84, 3) := by decide +kernel
theorem dX0_told_64 : decode cX0_told 64 = .ok (.ireturn, 1) := by decide +kernel
theorem dX0_told_65 : decode cX0_told 65 = .ok (.aload_n 0, 1) := by decide +kernel
theorem dX0_told_66 : decode cX0_told 66 = .ok (.getfield 9, 3) := by decide +kernel
theorem dX0_told_69 : decode cX0_told 69 = .ok (.bipush 21, 2) := by decide +kernel
theorem dX0_told_71 : decode cX0_told 71 = .ok (.iaload, 1) := by decide +kernel
theorem dX0_told_72 : decode cX0_told 72 = .ok (.aload_n 0, 1) := by decide +kernel
theorem dX0_told_73 : decode cX0_told 73 = .ok (.getfield 9, 3) := by decide +kernel
theorem dX0_told_76 : decode cX0_told 76 = .ok (.bipush 20, 2) := by decide +kernel
theorem dX0_told_78 : decode cX0_told 78 = .ok (.iaload, 1) := by decide +kernel
theorem dX0_told_79 : decode cX0_told 79 = .ok (.iand, 1) := by decide +kernel
theorem dX0_told_80 : decode cX0_told 80 = .ok (.iconst 1, 1) := by decide +kernel
theorem dX0_told_81 : decode cX0_told 81 = .ok (.iushr, 1) := by decide +kernel
theorem dX0_told_82 : decode cX0_told 82 = .ok (.ireturn, 1) := by decide +kernel
theorem dX0_told_83 : decode cX0_told 83 = .ok (.aload_n 0, 1) := by decide +kernel
theorem dX0_told_84 : decode cX0_told 84 = .ok (.getfield 9, 3) := by decide +kernel
theorem dX0_told_87 : decode cX0_told 87 = .ok (.bipush 24, 2) := by decide +kernel
theorem dX0_told_89 : decode cX0_told 89 = .ok (.iaload, 1) := by decide +kernel
theorem dX0_told_90 : decode cX0_told 90 = .ok (.aload_n 0, 1) := by decide +kernel
theorem dX0_told_91 : decode cX0_told 91 = .ok (.getfield 9, 3) := by decide +kernel
theorem dX0_told_94 : decode cX0_told 94 = .ok (.bipush 20, 2) := by decide +kernel
theorem dX0_told_96 : decode cX0_told 96 = .ok (.iaload, 1) := by decide +kernel
theorem dX0_told_97 : decode cX0_told 97 = .ok (.iand, 1) := by decide +kernel
theorem dX0_told_98 : decode cX0_told 98 = .ok (.iconst 1, 1) := by decide +kernel
theorem dX0_told_99 : decode cX0_told 99 = .ok (.iushr, 1) := by decide +kernel
theorem dX0_told_100 : decode cX0_told 100 = .ok (.ireturn, 1) := by decide +kernel
theorem dX0_told_101 : decode cX0_told 101 = .ok (.aload_n 0, 1) := by decide +kernel
theorem dX0_told_102 : decode cX0_told 102 = .ok (.getfield 9, 3) := by decide +kernel
theorem dX0_told_105 : decode cX0_told 105 = .ok (.bipush 24, 2) := by decide +kernel
theorem dX0_told_107 : decode cX0_told 107 = .ok (.iaload, 1) := by decide +kernel
theorem dX0_told_108 : decode cX0_told 108 = .ok (.ireturn, 1) := by decide +kernel
theorem dX0_told_109 : decode cX0_told 109 = .ok (.aload_n 0, 1) := by decide +kernel
theorem dX0_told_110 : decode cX0_told 110 = .ok (.getfield 22, 3) := by decide +kernel
theorem dX0_told_113 : decode cX0_told 113 = .ok (.l2i, 1) := by decide +kernel
theorem dX0_told_114 : decode cX0_told 114 = .ok (.ireturn, 1) := by decide +kernel
theorem dX0_told_115 : decode cX0_told 115 = .ok (.aload_n 0, 1) := by decide +kernel
theorem dX0_told_116 : decode cX0_told 116 = .ok (.getfield 22, 3) := by decide +kernel
theorem dX0_told_119 : decode cX0_told 119 = .ok (.bipush 32, 2) := by decide +kernel
theorem dX0_told_121 : decode cX0_told 121 = .ok (.lushr, 1) := by decide +kernel
theorem dX0_told_122 : decode cX0_told 122 = .ok (.l2i, 1) := by decide +kernel
theorem dX0_told_123 : decode cX0_told 123 = .ok (.ireturn, 1) := by decide +kernel
theorem dX0_told_124 : decode cX0_told 124 = .ok (.iload_n 1, 1) := by decide +kernel
theorem dX0_told_125 : decode cX0_told 125 = .ok (.ifCond .lt 21, 3) := by decide +kernel
theorem dX0_told_128 : decode cX0_told 128 = .ok (.iload_n 1, 1) := by decide +kernel
theorem dX0_told_129 : decode cX0_told 129 = .ok (.aload_n 0, 1) := by decide +kernel
theorem dX0_told_130 : decode cX0_told 130 = .ok (.getfield 9, 3) := by decide +kernel
theorem dX0_told_133 : decode cX0_told 133 = .ok (.arraylength, 1) := by decide +kernel
theorem dX0_told_134 : decode cX0_told 134 = .ok (.if_icmp .ge 12, 3) := by decide +kernel
theorem dX0_told_137 : decode cX0_told 137 = .ok (.aload_n 0, 1) := by decide +kernel
theorem dX0_told_138 : decode cX0_told 138 = .ok (.getfield 9, 3) := by decide +kernel
theorem dX0_told_141 : decode cX0_told 141 = .ok (.iload_n 1, 1) := by decide +kernel
theorem dX0_told_142 : decode cX0_told 142 = .ok (.iaload, 1) := by decide +kernel
theorem dX0_told_143 : decode cX0_told 143 = .ok (.goto 4, 3) := by decide +kernel
theorem dX0_told_146 : decode cX0_told 146 = .ok (.iconst 0, 1) := by decide +kernel
theorem dX0_told_147 : decode cX0_told 147 = .ok (.ireturn, 1) := by decide +kernel
theorem dX0_pendingForS_0 : decode cX0_pendingForS 0 = .ok (.aload_n 0, 1) := by decide +kernel
theorem dX0_pendingForS_1 : decode cX0_pendingForS 1 = .ok (.getfield 9, 3) := by decide +kernel
theorem dX0_pendingForS_4 : decode cX0_pendingForS 4 = .ok (.bipush 7, 2) := by decide +kernel
theorem dX0_pendingForS_6 : decode cX0_pendingForS 6 = .ok (.iaload, 1) := by decide +kernel
theorem dX0_pendingForS_7 : decode cX0_pendingForS 7 = .ok (.istore_n 1, 1) := by decide +kernel
theorem dX0_pendingForS_8 : decode cX0_pendingForS 8 = .ok (.aload_n 0, 1) := by decide +kernel
theorem dX0_pendingForS_9 : decode cX0_pendingForS 9 = .ok (.getfield 22, 3) := by decide +kernel
theorem dX0_pendingForS_12 : decode cX0_pendingForS 12 = .ok (.aload_n 0, 1) := by decide +kernel
theorem dX0_pendingForS_13 : decode cX0_pendingForS 13 = .ok (.getfield 26, 3) := by decide +kernel
theorem dX0_pendingForS_16 : decode cX0_pendingForS 16 = .ok (.lcmp, 1) := by decide +kernel
theorem dX0_pendingForS_17 : decode cX0_pendingForS 17 = .ok (.ifCond .lt 8, 3) := by decide +kernel
theorem dX0_pendingForS_20 : decode cX0_pendingForS 20 = .ok (.iload_n 1, 1) := by decide +kernel
theorem dX0_pendingForS_21 : decode cX0_pendingForS 21 = .ok (.bipush 32, 2) := by decide +kernel
theorem dX0_pendingForS_23 : decode cX0_pendingForS 23 = .ok (.ior, 1) := by decide +kernel
theorem dX0_pendingForS_24 : decode cX0_pendingForS 24 = .ok (.istore_n 1, 1) := by decide +kernel
theorem dX0_pendingForS_25 : decode cX0_pendingForS 25 = .ok (.aload_n 0, 1) := by decide +kernel
theorem dX0_pendingForS_26 : decode cX0_pendingForS 26 = .ok (.getfield 31, 3) := by decide +kernel
theorem dX0_pendingForS_29 : decode cX0_pendingForS 29 = .ok (.ifCond .eq 9, 3) := by decide +kernel
theorem dX0_pendingForS_32 : decode cX0_pendingForS 32 = .ok (.iload_n 1, 1) := by decide +kernel
theorem dX0_pendingForS_33 : decode cX0_pendingForS 33 = .ok (.sipush 512, 3) := by decide +kernel
theorem dX0_pendingForS_36 : decode cX0_pendingForS 36 = .ok (.ior, 1) := by decide +kernel
theorem dX0_pendingForS_37 : decode cX0_pendingForS 37 = .ok (.istore_n 1, 1) := by decide +kernel
theorem dX0_pendingForS_38 : decode cX0_pendingForS 38 = .ok (.iload_n 1, 1) := by decide +kernel
theorem dX0_pendingForS_39 : decode cX0_pendingForS 39 = .ok (.ireturn, 1) := by decide +kernel
set_option maxRecDepth 20000 in
theorem ggX0_put_X0_putBits : GoodIn wsX0_put wsX0_putBits := goodIn_r _ [7, 1, 8, 9, 10, 11, 12, 13] (by decide +kernel) (by decide +kernel)
set_option maxRecDepth 20000 in
theorem gX0_put_X0_putBits : GoodIn wsX0_put (wsV RX0 87 RX0 yX0_putBits wsX0_putBits) := goodIn_app (goodIn_of _ (by decide +kernel)) ggX0_put_X0_putBits
theorem dX0_put_0 : decode cX0_put 0 = .ok (.iload_n 1, 1) := by decide +kernel
theorem dX0_put_1 : decode cX0_put 1 = .ok (.lookupswitch 86 #[(10, 35), (16, 54), (23, 75)], 35) := by decide +kernel
theorem dX0_put_36 : decode cX0_put 36 = .ok (.aload_n 0, 1) := by decide +kernel
theorem dX0_put_37 : decode cX0_put 37 = .ok (.bipush 21, 2) := by decide +kernel
theorem dX0_put_39 : decode cX0_put 39 = .ok (.iload_n 2, 1) := by decide +kernel
theorem dX0_put_40 : decode cX0_put 40 = .ok (.iconst 1, 1) := by decide +kernel
theorem dX0_put_41 : decode cX0_put 41 = .ok (.ishl, 1) := by decide +kernel
theorem dX0_put_42 : decode cX0_put 42 = .ok (.aload_n 0, 1) := by decide +kernel
theorem dX0_put_43 : decode cX0_put 43 = .ok (.getfield 9, 3) := by decide +kernel
theorem dX0_put_46 : decode cX0_put 46 = .ok (.bipush 20, 2) := by decide +kernel
theorem dX0_put_48 : decode cX0_put 48 = .ok (.iaload, 1) := by decide +kernel
theorem dX0_put_49 : decode cX0_put 49 = .ok (.invokevirtual 87, 3) := by decide +kernel
theorem dX0_put_52 : decode cX0_put 52 = .ok (.goto 69, 3) := by decide +kernel
theorem dX0_put_55 : decode cX0_put 55 = .ok (.aload_n 0, 1) := by decide +kernel
theorem dX0_put_56 : decode cX0_put 56 = .ok (.bipush 24, 2) := by decide +kernel
theorem dX0_put_58 : decode cX0_put 58 = .ok (.iload_n 2, 1) := by decide +kernel
theorem dX0_put_59 : decode cX0_put 59 = .ok (.iconst 1, 1) := by decide +kernel
theorem dX0_put_60 : decode cX0_put 60 = .ok (.ishl, 1) := by decide +kernel
theorem dX0_put_61 : decode cX0_put 61 = .ok (.iconst 4, 1) := by decide +kernel
theorem dX0_put_62 : decode cX0_put 62 = .ok (.aload_n 0, 1) := by decide +kernel
theorem dX0_put_63 : decode cX0_put 63 = .ok (.getfield 9, 3) := by decide +kernel
theorem dX0_put_66 : decode cX0_put 66 = .ok (.bipush 20, 2) := by decide +kernel
theorem dX0_put_68 : decode cX0_put 68 = .ok (.iaload, 1) := by decide +kernel
theorem dX0_put_69 : decode cX0_put 69 = .ok (.iand, 1) := by decide +kernel
theorem dX0_put_70 : decode cX0_put 70 = .ok (.invokevirtual 87, 3) := by decide +kernel
theorem dX0_put_73 : decode cX0_put 73 = .ok (.goto 48, 3) := by decide +kernel
theorem dX0_put_76 : decode cX0_put 76 = .ok (.aload_n 0, 1) := by decide +kernel
theorem dX0_put_77 : decode cX0_put 77 = .ok (.bipush 24, 2) := by decide +kernel
theorem dX0_put_79 : decode cX0_put 79 = .ok (.iload_n 2, 1) := by decide +kernel
theorem dX0_put_80 : decode cX0_put 80 = .ok (.iconst 4, 1) := by decide +kernel
theorem dX0_put_81 : decode cX0_put 81 = .ok (.invokevirtual 87, 3) := by decide +kernel
theorem dX0_put_84 : decode cX0_put 84 = .ok (.goto 37, 3) := by decide +kernel
theorem dX0_put_87 : decode cX0_put 87 = .ok (.iload_n 1, 1) := by decide +kernel
theorem dX0_put_88 : decode cX0_put 88 = .ok (.ifCond .lt 33, 3) := by decide +kernel
theorem dX0_put_91 : decode cX0_put 91 = .ok (.iload_n 1, 1) := by decide +kernel
theorem dX0_put_92 : decode cX0_put 92 = .ok (.aload_n 0, 1) := by decide +kernel
theorem dX0_put_93 : decode cX0_put 93 = .ok (.getfield 9, 3) := by decide +kernel
theorem dX0_put_96 : decode cX0_put 96 = .ok (.arraylength, 1) := by decide +kernel
theorem dX0_put_97 : decode cX0_put 97 = .ok (.if_icmp .ge 24, 3) := by decide +kernel
theorem dX0_put_100 : decode cX0_put 100 = .ok (.iload_n 1, 1) := by decide +kernel
theorem dX0_put_101 : decode cX0_put 101 = .ok (.getstatic 91, 3) := by decide +kernel
theorem dX0_put_104 : decode cX0_put 104 = .ok (.arraylength, 1) := by decide +kernel
theorem dX0_put_105 : decode cX0_put 105 = .ok (.if_icmp .ge 16, 3) := by decide +kernel
theorem dX0_put_108 : decode cX0_put 108 = .ok (.aload_n 0, 1) := by decide +kernel
theorem dX0_put_109 : decode cX0_put 109 = .ok (.getfield 9, 3) := by decide +kernel
theorem dX0_put_112 : decode cX0_put 112 = .ok (.iload_n 1, 1) := by decide +kernel
theorem dX0_put_113 : decode cX0_put 113 = .ok (.iload_n 2, 1) := by decide +kernel
theorem dX0_put_114 : decode cX0_put 114 = .ok (.getstatic 91, 3) := by decide +kernel
theorem dX0_put_117 : decode cX0_put 117 = .ok (.iload_n 1, 1) := by decide +kernel
theorem dX0_put_118 : decode cX0_put 118 = .ok (.iaload, 1) := by decide +kernel
theorem dX0_put_119 : decode cX0_put 119 = .ok (.iand, 1) := by decide +kernel
theorem dX0_put_120 : decode cX0_put 120 = .ok (.iastore, 1) := by decide +kernel
theorem dX0_put_121 : decode cX0_put 121 = .ok (.return_, 1) := by decide +kernel
theorem dX0_putBits_0 : decode cX0_putBits 0 = .ok (.iload_n 1, 1) := by decide +kernel
theorem dX0_putBits_1 : decode cX0_putBits 1 = .ok (.ifCond .lt 32, 3) := by decide +kernel
theorem dX0_putBits_4 : decode cX0_putBits 4 = .ok (.iload_n 1, 1) := by decide +kernel
theorem dX0_putBits_5 : decode cX0_putBits 5 = .ok (.aload_n 0, 1) := by decide +kernel
theorem dX0_putBits_6 : decode cX0_putBits 6 = .ok (.getfield 9, 3) := by decide +kernel
theorem dX0_putBits_9 : decode cX0_putBits 9 = .ok (.arraylength, 1) := by decide +kernel
theorem dX0_putBits_10 : decode cX0_putBits 10 = .ok (.if_icmp .ge 23, 3) := by decide +kernel
theorem dX0_putBits_13 : decode cX0_putBits 13 = .ok (.aload_n 0, 1) := by decide +kernel
theorem dX0_putBits_14 : decode cX0_putBits 14 = .ok (.getfield 9, 3) := by decide +kernel
theorem dX0_putBits_17 : decode cX0_putBits 17 = .ok (.iload_n 1, 1) := by decide +kernel
theorem dX0_putBits_18 : decode cX0_putBits 18 = .ok (.aload_n 0, 1) := by decide +kernel
theorem dX0_putBits_19 : decode cX0_putBits 19 = .ok (.getfield 9, 3) := by decide +kernel
theorem dX0_putBits_22 : decode cX0_putBits 22 = .ok (.iload_n 1, 1) := by decide +kernel
theorem dX0_putBits_23 : decode cX0_putBits 23 = .ok (.iaload, 1) := by decide +kernel
theorem dX0_putBits_24 : decode cX0_putBits 24 = .ok (.iload_n 3, 1) := by decide +kernel
theorem dX0_putBits_25 : decode cX0_putBits 25 = .ok (.iconst (-1), 1) := by decide +kernel
theorem dX0_putBits_26 : decode cX0_putBits 26 = .ok (.ixor, 1) := by decide +kernel
theorem dX0_putBits_27 : decode cX0_putBits 27 = .ok (.iand, 1) := by decide +kernel
theorem dX0_putBits_28 : decode cX0_putBits 28 = .ok (.iload_n 2, 1) := by decide +kernel
theorem dX0_putBits_29 : decode cX0_putBits 29 = .ok (.iload_n 3, 1) := by decide +kernel
theorem dX0_putBits_30 : decode cX0_putBits 30 = .ok (.iand, 1) := by decide +kernel
theorem dX0_putBits_31 : decode cX0_putBits 31 = .ok (.ior, 1) := by decide +kernel
theorem dX0_putBits_32 : decode cX0_putBits 32 = .ok (.iastore, 1) := by decide +kernel
theorem dX0_putBits_33 : decode cX0_putBits 33 = .ok (.return_, 1) := by decide +kernel
set_option maxRecDepth 20000 in
theorem ggX0_dueForS_X0_pendingForS : GoodIn wsX0_dueForS wsX0_pendingForS := goodIn_r _ [8, 2, 9, 10, 11, 15, 16, 17, 18, 19, 20] (by decide +kernel) (by decide +kernel)
set_option maxRecDepth 20000 in
theorem gX0_dueForS_X0_pendingForS : GoodIn wsX0_dueForS (wsV RX0 84 RX0 yX0_pendingForS wsX0_pendingForS) := goodIn_app (goodIn_of _ (by decide +kernel)) ggX0_dueForS_X0_pendingForS
set_option maxRecDepth 20000 in
theorem ggX0_dueForS_X0_firstOf : GoodIn wsX0_dueForS wsX0_firstOf := goodIn_r _ [14] (by decide +kernel) (by decide +kernel)
set_option maxRecDepth 20000 in
theorem gX0_dueForS_X0_firstOf : GoodIn wsX0_dueForS (va_wsS RX0 97 yX0_firstOf wsX0_firstOf) := goodIn_app (goodIn_of _ (by decide +kernel)) ggX0_dueForS_X0_firstOf
theorem dX0_dueForS_0 : decode cX0_dueForS 0 = .ok (.aload_n 0, 1) := by decide +kernel
theorem dX0_dueForS_1 : decode cX0_dueForS 1 = .ok (.getfield 16, 3) := by decide +kernel
theorem dX0_dueForS_4 : decode cX0_dueForS 4 = .ok (.iconst 1, 1) := by decide +kernel
theorem dX0_dueForS_5 : decode cX0_dueForS 5 = .ok (.if_icmp .ne 16, 3) := by decide +kernel
theorem dX0_dueForS_8 : decode cX0_dueForS 8 = .ok (.aload_n 0, 1) := by decide +kernel
theorem dX0_dueForS_9 : decode cX0_dueForS 9 = .ok (.getfield 9, 3) := by decide +kernel
theorem dX0_dueForS_12 : decode cX0_dueForS 12 = .ok (.iconst 0, 1) := by decide +kernel
theorem dX0_dueForS_13 : decode cX0_dueForS 13 = .ok (.iaload, 1) := by decide +kernel
theorem dX0_dueForS_14 : decode cX0_dueForS 14 = .ok (.iconst 2, 1) := by decide +kernel
theorem dX0_dueForS_15 : decode cX0_dueForS 15 = .ok (.iand, 1) := by decide +kernel
theorem dX0_dueForS_16 : decode cX0_dueForS 16 = .ok (.ifCond .ne 5, 3) := by decide +kernel
theorem dX0_dueForS_19 : decode cX0_dueForS 19 = .ok (.iconst (-1), 1) := by decide +kernel
theorem dX0_dueForS_20 : decode cX0_dueForS 20 = .ok (.ireturn, 1) := by decide +kernel
theorem dX0_dueForS_21 : decode cX0_dueForS 21 = .ok (.aload_n 0, 1) := by decide +kernel
theorem dX0_dueForS_22 : decode cX0_dueForS 22 = .ok (.invokevirtual 84, 3) := by decide +kernel
theorem dX0_dueForS_25 : decode cX0_dueForS 25 = .ok (.aload_n 0, 1) := by decide +kernel
theorem dX0_dueForS_26 : decode cX0_dueForS 26 = .ok (.getfield 9, 3) := by decide +kernel
theorem dX0_dueForS_29 : decode cX0_dueForS 29 = .ok (.iconst 1, 1) := by decide +kernel
theorem dX0_dueForS_30 : decode cX0_dueForS 30 = .ok (.iaload, 1) := by decide +kernel
theorem dX0_dueForS_31 : decode cX0_dueForS 31 = .ok (.iand, 1) := by decide +kernel
theorem dX0_dueForS_32 : decode cX0_dueForS 32 = .ok (.istore_n 1, 1) := by decide +kernel
theorem dX0_dueForS_33 : decode cX0_dueForS 33 = .ok (.aload_n 0, 1) := by decide +kernel
theorem dX0_dueForS_34 : decode cX0_dueForS 34 = .ok (.getfield 9, 3) := by decide +kernel
theorem dX0_dueForS_37 : decode cX0_dueForS 37 = .ok (.bipush 24, 2) := by decide +kernel
theorem dX0_dueForS_39 : decode cX0_dueForS 39 = .ok (.iaload, 1) := by decide +kernel
theorem dX0_dueForS_40 : decode cX0_dueForS 40 = .ok (.aload_n 0, 1) := by decide +kernel
theorem dX0_dueForS_41 : decode cX0_dueForS 41 = .ok (.getfield 9, 3) := by decide +kernel
theorem dX0_dueForS_44 : decode cX0_dueForS 44 = .ok (.bipush 21, 2) := by decide +kernel
theorem dX0_dueForS_46 : decode cX0_dueForS 46 = .ok (.iaload, 1) := by decide +kernel
theorem dX0_dueForS_47 : decode cX0_dueForS 47 = .ok (.iand, 1) := by decide +kernel
theorem dX0_dueForS_48 : decode cX0_dueForS 48 = .ok (.aload_n 0, 1) := by decide +kernel
theorem dX0_dueForS_49 : decode cX0_dueForS 49 = .ok (.getfield 9, 3) := by decide +kernel
theorem dX0_dueForS_52 : decode cX0_dueForS 52 = .ok (.bipush 20, 2) := by decide +kernel
theorem dX0_dueForS_54 : decode cX0_dueForS 54 = .ok (.iaload, 1) := by decide +kernel
theorem dX0_dueForS_55 : decode cX0_dueForS 55 = .ok (.iconst (-1), 1) := by decide +kernel
theorem dX0_dueForS_56 : decode cX0_dueForS 56 = .ok (.ixor, 1) := by decide +kernel
theorem dX0_dueForS_57 : decode cX0_dueForS 57 = .ok (.iand, 1) := by decide +kernel
theorem dX0_dueForS_58 : decode cX0_dueForS 58 = .ok (.istore_n 2, 1) := by decide +kernel
theorem dX0_dueForS_59 : decode cX0_dueForS 59 = .ok (.getstatic 94, 3) := by decide +kernel
theorem dX0_dueForS_62 : decode cX0_dueForS 62 = .ok (.iload_n 1, 1) := by decide +kernel
theorem dX0_dueForS_63 : decode cX0_dueForS 63 = .ok (.iload_n 2, 1) := by decide +kernel
theorem dX0_dueForS_64 : decode cX0_dueForS 64 = .ok (.ior, 1) := by decide +kernel
theorem dX0_dueForS_65 : decode cX0_dueForS 65 = .ok (.invokestatic 97, 3) := by decide +kernel
theorem dX0_dueForS_68 : decode cX0_dueForS 68 = .ok (.ireturn, 1) := by decide +kernel
set_option maxRecDepth 20000 in
theorem ggX0_dueForVs_X0_firstOf : GoodIn wsX0_dueForVs wsX0_firstOf := goodIn_r _ [7] (by decide +kernel) (by decide +kernel)
set_option maxRecDepth 20000 in
theorem gX0_dueForVs_X0_firstOf : GoodIn wsX0_dueForVs (va_wsS RX0 97 yX0_firstOf wsX0_firstOf) := goodIn_app (goodIn_of _ (by decide +kernel)) ggX0_dueForVs_X0_firstOf
theorem dX0_dueForVs_0 : decode cX0_dueForVs 0 = .ok (.aload_n 0, 1) := by decide +kernel
theorem dX0_dueForVs_1 : decode cX0_dueForVs 1 = .ok (.getfield 16, 3) := by decide +kernel
theorem dX0_dueForVs_4 : decode cX0_dueForVs 4 = .ok (.iconst 2, 1) := by decide +kernel
theorem dX0_dueForVs_5 : decode cX0_dueForVs 5 = .ok (.if_icmp .eq 23, 3) := by decide +kernel
theorem dX0_dueForVs_8 : decode cX0_dueForVs 8 = .ok (.aload_n 0, 1) := by decide +kernel
theorem dX0_dueForVs_9 : decode cX0_dueForVs 9 = .ok (.getfield 16, 3) := by decide +kernel
theorem dX0_dueForVs_12 : decode cX0_dueForVs 12 = .ok (.iconst 3, 1) := by decide +kernel
theorem dX0_dueForVs_13 : decode cX0_dueForVs 13 = .ok (.if_icmp .ne 19, 3) := by decide +kernel
theorem dX0_dueForVs_16 : decode cX0_dueForVs 16 = .ok (.aload_n 0, 1) := by decide +kernel
theorem dX0_dueForVs_17 : decode cX0_dueForVs 17 = .ok (.getfield 9, 3) := by decide +kernel
theorem dX0_dueForVs_20 : decode cX0_dueForVs 20 = .ok (.bipush 9, 2) := by decide +kernel
theorem dX0_dueForVs_22 : decode cX0_dueForVs 22 = .ok (.iaload, 1) := by decide +kernel
theorem dX0_dueForVs_23 : decode cX0_dueForVs 23 = .ok (.iconst 2, 1) := by decide +kernel
theorem dX0_dueForVs_24 : decode cX0_dueForVs 24 = .ok (.iand, 1) := by decide +kernel
theorem dX0_dueForVs_25 : decode cX0_dueForVs 25 = .ok (.ifCond .eq 7, 3) := by decide +kernel
theorem dX0_dueForVs_28 : decode cX0_dueForVs 28 = .ok (.iconst 1, 1) := by decide +kernel
theorem dX0_dueForVs_29 : decode cX0_dueForVs 29 = .ok (.goto 4, 3) := by decide +kernel
theorem dX0_dueForVs_32 : decode cX0_dueForVs 32 = .ok (.iconst 0, 1) := by decide +kernel
theorem dX0_dueForVs_33 : decode cX0_dueForVs 33 = .ok (.istore_n 1, 1) := by decide +kernel
theorem dX0_dueForVs_34 : decode cX0_dueForVs 34 = .ok (.iload_n 1, 1) := by decide +kernel
theorem dX0_dueForVs_35 : decode cX0_dueForVs 35 = .ok (.ifCond .ne 5, 3) := by decide +kernel
theorem dX0_dueForVs_38 : decode cX0_dueForVs 38 = .ok (.iconst (-1), 1) := by decide +kernel
theorem dX0_dueForVs_39 : decode cX0_dueForVs 39 = .ok (.ireturn, 1) := by decide +kernel
theorem dX0_dueForVs_40 : decode cX0_dueForVs 40 = .ok (.getstatic 101, 3) := by decide +kernel
theorem dX0_dueForVs_43 : decode cX0_dueForVs 43 = .ok (.aload_n 0, 1) := by decide +kernel
theorem dX0_dueForVs_44 : decode cX0_dueForVs 44 = .ok (.getfield 9, 3) := by decide +kernel
theorem dX0_dueForVs_47 : decode cX0_dueForVs 47 = .ok (.bipush 24, 2) := by decide +kernel
theorem dX0_dueForVs_49 : decode cX0_dueForVs 49 = .ok (.iaload, 1) := by decide +kernel
theorem dX0_dueForVs_50 : decode cX0_dueForVs 50 = .ok (.aload_n 0, 1) := by decide +kernel
theorem dX0_dueForVs_51 : decode cX0_dueForVs 51 = .ok (.getfield 9, 3) := by decide +kernel
theorem dX0_dueForVs_54 : decode cX0_dueForVs 54 = .ok (.bipush 21, 2) := by decide +kernel
theorem dX0_dueForVs_56 : decode cX0_dueForVs 56 = .ok (.iaload, 1) := by decide +kernel
theorem dX0_dueForVs_57 : decode cX0_dueForVs 57 = .ok (.iand, 1) := by decide +kernel
theorem dX0_dueForVs_58 : decode cX0_dueForVs 58 = .ok (.aload_n 0, 1) := by decide +kernel
theorem dX0_dueForVs_59 : decode cX0_dueForVs 59 = .ok (.getfield 9, 3) := by decide +kernel
theorem dX0_dueForVs_62 : decode cX0_dueForVs 62 = .ok (.bipush 20, 2) := by decide +kernel
theorem dX0_dueForVs_64 : decode cX0_dueForVs 64 = .ok (.iaload, 1) := by decide +kernel
theorem dX0_dueForVs_65 : decode cX0_dueForVs 65 = .ok (.iand, 1) := by decide +kernel
theorem dX0_dueForVs_66 : decode cX0_dueForVs 66 = .ok (.invokestatic 97, 3) := by decide +kernel
theorem dX0_dueForVs_69 : decode cX0_dueForVs 69 = .ok (.istore_n 2, 1) := by decide +kernel
theorem dX0_dueForVs_70 : decode cX0_dueForVs 70 = .ok (.iload_n 2, 1) := by decide +kernel
theorem dX0_dueForVs_71 : decode cX0_dueForVs 71 = .ok (.iconst (-1), 1) := by decide +kernel
theorem dX0_dueForVs_72 : decode cX0_dueForVs 72 = .ok (.if_icmp .ne 7, 3) := by decide +kernel
theorem dX0_dueForVs_75 : decode cX0_dueForVs 75 = .ok (.iconst (-1), 1) := by decide +kernel
theorem dX0_dueForVs_76 : decode cX0_dueForVs 76 = .ok (.goto 7, 3) := by decide +kernel
theorem dX0_dueForVs_79 : decode cX0_dueForVs 79 = .ok (.iload_n 2, 1) := by decide +kernel
theorem dX0_dueForVs_80 : decode cX0_dueForVs 80 = .ok (.bipush 99, 2) := by decide +kernel
theorem dX0_dueForVs_82 : decode cX0_dueForVs 82 = .ok (.iadd, 1) := by decide +kernel
theorem dX0_dueForVs_83 : decode cX0_dueForVs 83 = .ok (.ireturn, 1) := by decide +kernel
theorem dX0_firstOf_0 : decode cX0_firstOf 0 = .ok (.iconst 0, 1) := by decide +kernel
theorem dX0_firstOf_1 : decode cX0_firstOf 1 = .ok (.istore_n 2, 1) := by decide +kernel
theorem dX0_firstOf_2 : decode cX0_firstOf 2 = .ok (.iload_n 2, 1) := by decide +kernel
theorem dX0_firstOf_3 : decode cX0_firstOf 3 = .ok (.aload_n 0, 1) := by decide +kernel
theorem dX0_firstOf_4 : decode cX0_firstOf 4 = .ok (.arraylength, 1) := by decide +kernel
theorem dX0_firstOf_5 : decode cX0_firstOf 5 = .ok (.if_icmp .ge 23, 3) := by decide +kernel
theorem dX0_firstOf_8 : decode cX0_firstOf 8 = .ok (.iload_n 1, 1) := by decide +kernel
theorem dX0_firstOf_9 : decode cX0_firstOf 9 = .ok (.aload_n 0, 1) := by decide +kernel
theorem dX0_firstOf_10 : decode cX0_firstOf 10 = .ok (.iload_n 2, 1) := by decide +kernel
theorem dX0_firstOf_11 : decode cX0_firstOf 11 = .ok (.iaload, 1) := by decide +kernel
theorem dX0_firstOf_12 : decode cX0_firstOf 12 = .ok (.iushr, 1) := by decide +kernel
theorem dX0_firstOf_13 : decode cX0_firstOf 13 = .ok (.iconst 1, 1) := by decide +kernel
theorem dX0_firstOf_14 : decode cX0_firstOf 14 = .ok (.iand, 1) := by decide +kernel
theorem dX0_firstOf_15 : decode cX0_firstOf 15 = .ok (.ifCond .eq 7, 3) := by decide +kernel
theorem dX0_firstOf_18 : decode cX0_firstOf 18 = .ok (.aload_n 0, 1) := by decide +kernel
theorem dX0_firstOf_19 : decode cX0_firstOf 19 = .ok (.iload_n 2, 1) := by decide +kernel
theorem dX0_firstOf_20 : decode cX0_firstOf 20 = .ok (.iaload, 1) := by decide +kernel
theorem dX0_firstOf_21 : decode cX0_firstOf 21 = .ok (.ireturn, 1) := by decide +kernel
theorem dX0_firstOf_22 : decode cX0_firstOf 22 = .ok (.iinc 2 1, 3) := by decide +kernel
theorem dX0_firstOf_25 : decode cX0_firstOf 25 = .ok (.goto (-23), 3) := by decide +kernel
theorem dX0_firstOf_28 : decode cX0_firstOf 28 = .ok (.iconst (-1), 1) := by decide +kernel
theorem dX0_firstOf_29 : decode cX0_firstOf 29 = .ok (.ireturn, 1) := by decide +kernel
set_option maxRecDepth 20000 in
theorem ggX1_init_X1_begin : GoodIn wsX1_init wsX1_begin := goodIn_r _ [10, 5, 11, 12, 13, 14, 15, 16, 17, 18, 19, 20, 21, 22] (by decide +kernel) (by decide +kernel)
set_option maxRecDepth 20000 in
theorem gX1_init_X1_begin : GoodIn wsX1_init (wsV RX1 13 RX1 yX1_begin wsX1_begin) := goodIn_app (goodIn_of _ (by decide +kernel)) ggX1_init_X1_begin
theorem dX1_init_0 : decode cX1_init 0 = .ok (.aload_n 0, 1) := by decide +kernel
theorem dX1_init_1 : decode cX1_init 1 = .ok (.invokespecial 1, 3) := by decide +kernel
theorem dX1_init_4 : decode cX1_init 4 = .ok (.aload_n 0, 1) := by decide +kernel
theorem dX1_init_5 : decode cX1_init 5 = .ok (.bipush 29, 2) := by decide +kernel
theorem dX1_init_7 : decode cX1_init 7 = .ok (.newarray .int, 2) := by decide +kernel
theorem dX1_init_9 : decode cX1_init 9 = .ok (.putfield 7, 3) := by decide +kernel
theorem dX1_init_12 : decode cX1_init 12 = .ok (.aload_n 0, 1) := by decide +kernel
theorem dX1_init_13 : decode cX1_init 13 = .ok (.invokevirtual 13, 3) := by decide +kernel
theorem dX1_init_16 : decode cX1_init 16 = .ok (.return_, 1) := by decide +kernel
theorem dX1_begin_0 : decode cX1_begin 0 = .ok (.iconst 0, 1) := by decide +kernel
theorem dX1_begin_1 : decode cX1_begin 1 = .ok (.istore_n 1, 1) := by decide +kernel
theorem dX1_begin_2 : decode cX1_begin 2 = .ok (.iload_n 1, 1) := by decide +kernel
theorem dX1_begin_3 : decode cX1_begin 3 = .ok (.bipush 29, 2) := by decide +kernel
theorem dX1_begin_5 : decode cX1_begin 5 = .ok (.if_icmp .ge 16, 3) := by decide +kernel
theorem dX1_begin_8 : decode cX1_begin 8 = .ok (.aload_n 0, 1) := by decide +kernel
theorem dX1_begin_9 : decode cX1_begin 9 = .ok (.getfield 7, 3) := by decide +kernel
theorem dX1_begin_12 : decode cX1_begin 12 = .ok (.iload_n 1, 1) := by decide +kernel
theorem dX1_begin_13 : decode cX1_begin 13 = .ok (.iconst 0, 1) := by decide +kernel
theorem dX1_begin_14 : decode cX1_begin 14 = .ok (.iastore, 1) := by decide +kernel
theorem dX1_begin_15 : decode cX1_begin 15 = .ok (.iinc 1 1, 3) := by decide +kernel
theorem dX1_begin_18 : decode cX1_begin 18 = .ok (.goto (-16), 3) := by decide +kernel
theorem dX1_begin_21 : decode cX1_begin 21 = .ok (.aload_n 0, 1) := by decide +kernel
theorem dX1_begin_22 : decode cX1_begin 22 = .ok (.iconst 1, 1) := by decide +kernel
theorem dX1_begin_23 : decode cX1_begin 23 = .ok (.putfield 16, 3) := by decide +kernel
theorem dX1_begin_26 : decode cX1_begin 26 = .ok (.aload_n 0, 1) := by decide +kernel
theorem dX1_begin_27 : decode cX1_begin 27 = .ok (.lconst 0, 1) := by decide +kernel
theorem dX1_begin_28 : decode cX1_begin 28 = .ok (.putfield 20, 3) := by decide +kernel
theorem dX1_begin_31 : decode cX1_begin 31 = .ok (.aload_n 0, 1) := by decide +kernel
theorem dX1_begin_32 : decode cX1_begin 32 = .ok (.ldc2_w 24, 3) := by decide +kernel
theorem dX1_begin_35 : decode cX1_begin 35 = .ok (.putfield 26, 3) := by decide +kernel
theorem dX1_begin_38 : decode cX1_begin 38 = .ok (.aload_n 0, 1) := by decide +kernel
theorem dX1_begin_39 : decode cX1_begin 39 = .ok (.iconst 0, 1) := by decide +kernel
theorem dX1_begin_40 : decode cX1_begin 40 = .ok (.putfield 29, 3) := by decide +kernel
theorem dX1_begin_43 : decode cX1_begin 43 = .ok (.aload_n 0, 1) := by decide +kernel
theorem dX1_begin_44 : decode cX1_begin 44 = .ok (.iconst 0, 1) := by decide +kernel
theorem dX1_begin_45 : decode cX1_begin 45 = .ok (.putfield 33, 3) := by decide +kernel
theorem dX1_begin_48 : decode cX1_begin 48 = .ok (.return_, 1) := by decide +kernel
theorem dX1_mode_0 : decode cX1_mode 0 = .ok (.iload_n 1, 1) := by decide +kernel
theorem dX1_mode_1 : decode cX1_mode 1 = .ok (.ifCond .lt 8, 3) := by decide +kernel
theorem dX1_mode_4 : decode cX1_mode 4 = .ok (.iload_n 1, 1) := by decide +kernel
theorem dX1_mode_5 : decode cX1_mode 5 = .ok (.iconst 3, 1) := by decide +kernel
theorem dX1_mode_6 : decode cX1_mode 6 = .ok (.if_icmp .le 5, 3) := by decide +kernel
theorem dX1_mode_9 : decode cX1_mode 9 = .ok (.iconst (-1), 1) := by decide +kernel
theorem dX1_mode_10 : decode cX1_mode 10 = .ok (.ireturn, 1) := by decide +kernel
theorem dX1_mode_11 : decode cX1_mode 11 = .ok (.aload_n 0, 1) := by decide +kernel
theorem dX1_mode_12 : decode cX1_mode 12 = .ok (.getfield 16, 3) := by decide +kernel
theorem dX1_mode_15 : decode cX1_mode 15 = .ok (.istore_n 2, 1) := by decide +kernel
theorem dX1_mode_16 : decode cX1_mode 16 = .ok (.aload_n 0, 1) := by decide +kernel
theorem dX1_mode_17 : decode cX1_mode 17 = .ok (.iload_n 1, 1) := by decide +kernel
theorem dX1_mode_18 : decode cX1_mode 18 = .ok (.putfield 16, 3) := by decide +kernel
theorem dX1_mode_21 : decode cX1_mode 21 = .ok (.iload_n 2, 1) := by decide +kernel
theorem dX1_mode_22 : decode cX1_mode 22 = .ok (.ireturn, 1) := by decide +kernel
theorem dX1_time_0 : decode cX1_time 0 = .ok (.lload_n 1, 1) := by decide +kernel
theorem dX1_time_1 : decode cX1_time 1 = .ok (.lconst 0, 1) := by decide +kernel
theorem dX1_time_2 : decode cX1_time 2 = .ok (.lcmp, 1) := by decide +kernel
theorem dX1_time_3 : decode cX1_time 3 = .ok (.ifCond .ge 7, 3) := by decide +kernel
theorem dX1_time_6 : decode cX1_time 6 = .ok (.ldc2_w 36, 3) := by decide +kernel
theorem dX1_time_9 : decode cX1_time 9 = .ok (.lreturn, 1) := by decide +kernel
theorem dX1_time_10 : decode cX1_time 10 = .ok (.aload_n 0, 1) := by decide +kernel
theorem dX1_time_11 : decode cX1_time 11 = .ok (.getfield 20, 3) := by decide +kernel
theorem dX1_time_14 : decode cX1_time 14 = .ok (.lstore_n 3, 1) := by decide +kernel
theorem dX1_time_15 : decode cX1_time 15 = .ok (.aload_n 0, 1) := by decide +kernel
theorem dX1_time_16 : decode cX1_time 16 = .ok (.lload_n 1, 1) := by decide +kernel
theorem dX1_time_17 : decode cX1_time 17 = .ok (.putfield 20, 3) := by decide +kernel
theorem dX1_time_20 : decode cX1_time 20 = .ok (.lload_n 3, 1) := by decide +kernel
theorem dX1_time_21 : decode cX1_time 21 = .ok (.lreturn, 1) := by decide +kernel
theorem dX1_alarm_0 : decode cX1_alarm 0 = .ok (.aload_n 0, 1) := by decide +kernel
theorem dX1_alarm_1 : decode cX1_alarm 1 = .ok (.getfield 26, 3) := by decide +kernel
theorem dX1_alarm_4 : decode cX1_alarm 4 = .ok (.lstore_n 3, 1) := by decide +kernel
theorem dX1_alarm_5 : decode cX1_alarm 5 = .ok (.aload_n 0, 1) := by decide +kernel
theorem dX1_alarm_6 : decode cX1_alarm 6 = .ok (.lload_n 1, 1) := by decide +kernel
theorem dX1_alarm_7 : decode cX1_alarm 7 = .ok (.lconst 0, 1) := by decide +kernel
theorem dX1_alarm_8 : decode cX1_alarm 8 = .ok (.lcmp, 1) := by decide +kernel
theorem dX1_alarm_9 : decode cX1_alarm 9 = .ok (.ifCond .ge 9, 3) := by decide +kernel
theorem dX1_alarm_12 : decode cX1_alarm 12 = .ok (.ldc2_w 24, 3) := by decide +kernel
theorem dX1_alarm_15 : decode cX1_alarm 15 = .ok (.goto 4, 3) := by decide +kernel
theorem dX1_alarm_18 : decode cX1_alarm 18 = .ok (.lload_n 1, 1) := by decide +kernel
theorem dX1_alarm_19 : decode cX1_alarm 19 = .ok (.putfield 26, 3) := by decide +kernel
theorem dX1_alarm_22 : decode cX1_alarm 22 = .ok (.lload_n 3, 1) := by decide +kernel
theorem dX1_alarm_23 : decode cX1_alarm 23 = .ok (.lreturn, 1) := by decide +kernel
theorem dX1_line_0 : decode cX1_line 0 = .ok (.aload_n 0, 1) := by decide +kernel
theorem dX1_line_1 : decode cX1_line 1 = .ok (.getfield 29, 3) := by decide +kernel
theorem dX1_line_4 : decode cX1_line 4 = .ok (.istore_n 2, 1) := by decide +kernel
theorem dX1_line_5 : decode cX1_line 5 = .ok (.aload_n 0, 1) := by decide +kernel
theorem dX1_line_6 : decode cX1_line 6 = .ok (.iload_n 1, 1) := by decide +kernel
theorem dX1_line_7 : decode cX1_line 7 = .ok (.putfield 29, 3) := by decide +kernel
theorem dX1_line_10 : decode cX1_line 10 = .ok (.iload_n 2, 1) := by decide +kernel
theorem dX1_line_11 : decode cX1_line 11 = .ok (.ireturn, 1) := by decide +kernel
theorem dX1_kindOf_0 : decode cX1_kindOf 0 = .ok (.iload_n 0, 1) := by decide +kernel
theorem dX1_kindOf_1 : decode cX1_kindOf 1 = .ok (.lookupswitch 99 #[(0, 83), (4, 85), (5, 87), (64, 89), (65, 89), (66, 89), (67, 89), (68, 89), (128, 96)], 83) := by decide +kernel
theorem dX1_kindOf_84 : decode cX1_kindOf 84 = .ok (.iconst 0, 1) := by decide +kernel
theorem dX1_kindOf_85 : decode cX1_kindOf 85 = .ok (.ireturn, 1) := by decide +kernel
theorem dX1_kindOf_86 : decode cX1_kindOf 86 = .ok (.iconst 1, 1) := by decide +kernel
theorem dX1_kindOf_87 : decode cX1_kindOf 87 = .ok (.ireturn, 1) := by decide +kernel
theorem dX1_kindOf_88 : decode cX1_kindOf 88 = .ok (.iconst 2, 1) := by decide +kernel
theorem dX1_kindOf_89 : decode cX1_kindOf 89 = .ok (.ireturn, 1) := by decide +kernel
theorem dX1_kindOf_90 : decode cX1_kindOf 90 = .ok (.iload_n 0, 1) := by decide +kernel
theorem dX1_kindOf_91 : decode cX1_kindOf 91 = .ok (.bipush 64, 2) := by decide +kernel
theorem dX1_kindOf_93 : decode cX1_kindOf 93 = .ok (.isub, 1) := by decide +kernel
theorem dX1_kindOf_94 : decode cX1_kindOf 94 = .ok (.iconst 3, 1) := by decide +kernel
theorem dX1_kindOf_95 : decode cX1_kindOf 95 = .ok (.iadd, 1) := by decide +kernel
theorem dX1_kindOf_96 : decode cX1_kindOf 96 = .ok (.ireturn, 1) := by decide +kernel
theorem dX1_kindOf_97 : decode cX1_kindOf 97 = .ok (.bipush 8, 2) := by decide +kernel
theorem dX1_kindOf_99 : decode cX1_kindOf 99 = .ok (.ireturn, 1) := by decide +kernel
theorem dX1_kindOf_100 : decode cX1_kindOf 100 = .ok (.iconst (-1), 1) := by decide +kernel
theorem dX1_kindOf_101 : decode cX1_kindOf 101 = .ok (.ireturn, 1) := by decide +kernel
theorem dX1_hyperOf_0 : decode cX1_hyperOf 0 = .ok (.iload_n 0, 1) := by decide +kernel
theorem dX1_hyperOf_1 : decode cX1_hyperOf 1 = .ok (.lookupswitch 132 #[(1536, 99), (1538, 102), (1539, 105), (1540, 108), (1603, 111), (1604, 114), (1605, 117), (1610, 120), (1664, 123), (3073, 126), (3201, 129)], 99) := by decide +kernel
theorem dX1_hyperOf_100 : decode cX1_hyperOf 100 = .ok (.bipush 18, 2) := by decide +kernel
theorem dX1_hyperOf_102 : decode cX1_hyperOf 102 = .ok (.ireturn, 1) := by decide +kernel
theorem dX1_hyperOf_103 : decode cX1_hyperOf 103 = .ok (.bipush 19, 2) := by decide +kernel
theorem dX1_hyperOf_105 : decode cX1_hyperOf 105 = .ok (.ireturn, 1) := by decide +kernel
theorem dX1_hyperOf_106 : decode cX1_hyperOf 106 = .ok (.bipush 20, 2) := by decide +kernel
theorem dX1_hyperOf_108 : decode cX1_hyperOf 108 = .ok (.ireturn, 1) := by decide +kernel
theorem dX1_hyperOf_109 : decode cX1_hyperOf 109 = .ok (.bipush 21, 2) := by decide +kernel
theorem dX1_hyperOf_111 : decode cX1_hyperOf 111 = .ok (.ireturn, 1) := by decide +kernel
theorem dX1_hyperOf_112 : decode cX1_hyperOf 112 = .ok (.bipush 22, 2) := by decide +kernel
theorem dX1_hyperOf_114 : decode cX1_hyperOf 114 = .ok (.ireturn, 1) := by decide +kernel
theorem dX1_hyperOf_115 : decode cX1_hyperOf 115 = .ok (.bipush 23, 2) := by decide +kernel
theorem dX1_hyperOf_117 : decode cX1_hyperOf 117 = .ok (.ireturn, 1) := by decide +kernel
theorem dX1_hyperOf_118 : decode cX1_hyperOf 118 = .ok (.bipush 24, 2) := by decide +kernel
theorem dX1_hyperOf_120 : decode cX1_hyperOf 120 = .ok (.ireturn, 1) := by decide +kernel
theorem dX1_hyperOf_121 : decode cX1_hyperOf 121 = .ok (.bipush 25, 2) := by decide +kernel
theorem dX1_hyperOf_123 : decode cX1_hyperOf 123 = .ok (.ireturn, 1) := by decide +kernel
theorem dX1_hyperOf_124 : decode cX1_hyperOf 124 = .ok (.bipush 26, 2) := by decide +kernel
theorem dX1_hyperOf_126 : decode cX1_hyperOf 126 = .ok (.ireturn, 1) := by decide +kernel
theorem dX1_hyperOf_127 : decode cX1_hyperOf 127 = .ok (.bipush 27, 2) := by decide +kernel
theorem dX1_hyperOf_129 : decode cX1_hyperOf 129 = .ok (.ireturn, 1) := by decide +kernel
theorem dX1_hyperOf_130 : decode cX1_hyperOf 130 = .ok (.bipush 28, 2) := by decide +kernel
theorem dX1_hyperOf_132 : decode cX1_hyperOf 132 = .ok (.ireturn, 1) := by decide +kernel
theorem dX1_hyperOf_133 : decode cX1_hyperOf 133 = .ok (.iconst (-1), 1) := by decide +kernel
theorem dX1_hyperOf_134 : decode cX1_hyperOf 134 = .ok (.ireturn, 1) := by decide +kernel
set_option maxRecDepth 20000 in
theorem ggX1_placeOf_X1_hyperOf : GoodIn wsX1_placeOf wsX1_hyperOf := goodIn_r _ [4] (by decide +kernel) (by decide +kernel)
set_option maxRecDepth 20000 in
theorem gX1_placeOf_X1_hyperOf : GoodIn wsX1_placeOf (va_wsS RX1 38 yX1_hyperOf wsX1_hyperOf) := goodIn_app (goodIn_of _ (by decide +kernel)) ggX1_placeOf_X1_hyperOf
set_option maxRecDepth 20000 in
theorem ggX1_placeOf_X1_kindOf : GoodIn wsX1_placeOf wsX1_kindOf := goodIn_r _ [7] (by decide +kernel) (by decide +kernel)
set_option maxRecDepth 20000 in
theorem gX1_placeOf_X1_kindOf : GoodIn wsX1_placeOf (va_wsS RX1 42 yX1_kindOf wsX1_kindOf) := goodIn_app (goodIn_of _ (by decide +kernel)) ggX1_placeOf_X1_kindOf
theorem dX1_placeOf_0 : decode cX1_placeOf 0 = .ok (.iload_n 0, 1) := by decide +kernel
theorem dX1_placeOf_1 : decode cX1_placeOf 1 = .ok (.bipush 8, 2) := by decide +kernel
theorem dX1_placeOf_3 : decode cX1_placeOf 3 = .ok (.ishr, 1) := by decide +kernel
theorem dX1_placeOf_4 : decode cX1_placeOf 4 = .ok (.istore_n 1, 1) := by decide +kernel
theorem dX1_placeOf_5 : decode cX1_placeOf 5 = .ok (.iload_n 1, 1) := by decide +kernel
theorem dX1_placeOf_6 : decode cX1_placeOf 6 = .ok (.iconst 1, 1) := by decide +kernel
theorem dX1_placeOf_7 : decode cX1_placeOf 7 = .ok (.if_icmp .eq 13, 3) := by decide +kernel
theorem dX1_placeOf_10 : decode cX1_placeOf 10 = .ok (.iload_n 1, 1) := by decide +kernel
theorem dX1_placeOf_11 : decode cX1_placeOf 11 = .ok (.iconst 2, 1) := by decide +kernel
theorem dX1_placeOf_12 : decode cX1_placeOf 12 = .ok (.if_icmp .eq 8, 3) := by decide +kernel
theorem dX1_placeOf_15 : decode cX1_placeOf 15 = .ok (.iload_n 0, 1) := by decide +kernel
theorem dX1_placeOf_16 : decode cX1_placeOf 16 = .ok (.invokestatic 38, 3) := by decide +kernel
theorem dX1_placeOf_19 : decode cX1_placeOf 19 = .ok (.ireturn, 1) := by decide +kernel
theorem dX1_placeOf_20 : decode cX1_placeOf 20 = .ok (.iload_n 0, 1) := by decide +kernel
theorem dX1_placeOf_21 : decode cX1_placeOf 21 = .ok (.sipush 255, 3) := by decide +kernel
theorem dX1_placeOf_24 : decode cX1_placeOf 24 = .ok (.iand, 1) := by decide +kernel
theorem dX1_placeOf_25 : decode cX1_placeOf 25 = .ok (.invokestatic 42, 3) := by decide +kernel
theorem dX1_placeOf_28 : decode cX1_placeOf 28 = .ok (.istore_n 2, 1) := by decide +kernel
theorem dX1_placeOf_29 : decode cX1_placeOf 29 = .ok (.iload_n 2, 1) := by decide +kernel
theorem dX1_placeOf_30 : decode cX1_placeOf 30 = .ok (.iconst (-1), 1) := by decide +kernel
theorem dX1_placeOf_31 : decode cX1_placeOf 31 = .ok (.if_icmp .ne 7, 3) := by decide +kernel
theorem dX1_placeOf_34 : decode cX1_placeOf 34 = .ok (.iconst (-1), 1) := by decide +kernel
theorem dX1_placeOf_35 : decode cX1_placeOf 35 = .ok (.goto 16, 3) := by decide +kernel
theorem dX1_placeOf_38 : decode cX1_placeOf 38 = .ok (.iload_n 1, 1) := by decide +kernel
theorem dX1_placeOf_39 : decode cX1_placeOf 39 = .ok (.iconst 1, 1) := by decide +kernel
theorem dX1_placeOf_40 : decode cX1_placeOf 40 = .ok (.if_icmp .ne 7, 3) := by decide +kernel
theorem dX1_placeOf_43 : decode cX1_placeOf 43 = .ok (.iload_n 2, 1) := by decide +kernel
theorem dX1_placeOf_44 : decode cX1_placeOf 44 = .ok (.goto 7, 3) := by decide +kernel
theorem dX1_placeOf_47 : decode cX1_placeOf 47 = .ok (.bipush 9, 2) := by decide +kernel
theorem dX1_placeOf_49 : decode cX1_placeOf 49 = .ok (.iload_n 2, 1) := by decide +kernel
theorem dX1_placeOf_50 : decode cX1_placeOf 50 = .ok (.iadd, 1) := by decide +kernel
theorem dX1_placeOf_51 : decode cX1_placeOf 51 = .ok (.ireturn, 1) := by decide +kernel
theorem dX1_has_0 : decode cX1_has 0 = .ok (.aload_n 0, 1) := by decide +kernel
theorem dX1_has_1 : decode cX1_has 1 = .ok (.getfield 7, 3) := by decide +kernel
theorem dX1_has_4 : decode cX1_has 4 = .ok (.iload_n 1, 1) := by decide +kernel
theorem dX1_has_5 : decode cX1_has 5 = .ok (.iaload, 1) := by decide +kernel
theorem dX1_has_6 : decode cX1_has 6 = .ok (.iload_n 2, 1) := by decide +kernel
theorem dX1_has_7 : decode cX1_has 7 = .ok (.ishr, 1) := by decide +kernel
theorem dX1_has_8 : decode cX1_has 8 = .ok (.iconst 1, 1) := by decide +kernel
theorem dX1_has_9 : decode cX1_has 9 = .ok (.iand, 1) := by decide +kernel
theorem dX1_has_10 : decode cX1_has 10 = .ok (.iconst 1, 1) := by decide +kernel
theorem dX1_has_11 : decode cX1_has 11 = .ok (.if_icmp .ne 7, 3) := by decide +kernel
theorem dX1_has_14 : decode cX1_has 14 = .ok (.iconst 1, 1) := by decide +kernel
theorem dX1_has_15 : decode cX1_has 15 = .ok (.goto 4, 3) := by decide +kernel
theorem dX1_has_18 : decode cX1_has 18 = .ok (.iconst 0, 1) := by decide +kernel
theorem dX1_has_19 : decode cX1_has 19 = .ok (.ireturn, 1) := by decide +kernel
theorem dX1_tells_0 : decode cX1_tells 0 = .ok (.iload_n 1, 1) := by decide +kernel
theorem dX1_tells_1 : decode cX1_tells 1 = .ok (.lookupswitch 160 #[(7, 59), (10, 101), (16, 119), (23, 137), (27, 145), (28, 151)], 59) := by decide +kernel
theorem dX1_tells_60 : decode cX1_tells 60 = .ok (.aload_n 0, 1) := by decide +kernel
theorem dX1_tells_61 : decode cX1_tells 61 = .ok (.getfield 7, 3) := by decide +kernel
theorem dX1_tells_64 : decode cX1_tells 64 = .ok (.bipush 7, 2) := by decide +kernel
theorem dX1_tells_66 : decode cX1_tells 66 = .ok (.iaload, 1) := by decide +kernel
theorem dX1_tells_67 : decode cX1_tells 67 = .ok (.aload_n 0, 1) := by decide +kernel
theorem dX1_tells_68 : decode cX1_tells 68 = .ok (.getfield 20, 3) := by decide +kernel
theorem dX1_tells_71 : decode cX1_tells 71 = .ok (.aload_n 0, 1) := by decide +kernel
theorem dX1_tells_72 : decode cX1_tells 72 = .ok (.getfield 26, 3) := by decide +kernel
theorem dX1_tells_75 : decode cX1_tells 75 = .ok (.lcmp, 1) := by decide +kernel
theorem dX1_tells_76 : decode cX1_tells 76 = .ok (.ifCond .lt 8, 3) := by decide +kernel
theorem dX1_tells_79 : decode cX1_tells 79 = .ok (.bipush 32, 2) := by decide +kernel
theorem dX1_tells_81 : decode cX1_tells 81 = .ok (.goto 4, 3) := by decide +kernel
theorem dX1_tells_84 : decode cX1_tells 84 = .ok (.iconst 0, 1) := by decide +kernel
theorem dX1_tells_85 : decode cX1_tells 85 = .ok (.ior, 1) := by decide +kernel
theorem dX1_tells_86 : decode cX1_tells 86 = .ok (.aload_n 0, 1) := by decide +kernel
theorem dX1_tells_87 : decode cX1_tells 87 = .ok (.getfield 29, 3) := by decide +kernel
theorem dX1_tells_90 : decode cX1_tells 90 = .ok (.ifCond .eq 9, 3) := by decide +kernel
theorem dX1_tells_93 : decode cX1_tells 93 = .ok (.sipush 512, 3) := by decide +kernel
theorem dX1_tells_96 : decode cX1_tells 96 = .ok (.goto 4, 3) := by decide +kernel
theorem dX1_tells_99 : decode cX1_tells 99 = .ok (.iconst 0, 1) := by decide +kernel
theorem dX1_tells_100 : decode cX1_tells 100 = .ok (.ior, 1) := by decide +kernel
theorem dX1_tells_101 : decode cX1_tells 101 = .ok (.ireturn, 1) := by decide +kernel
theorem dX1_tells_102 : decode cX1_tells 102 = .ok (.aload_n 0, 1) := by decide +kernel
theorem dX1_tells_103 : decode cX1_tells 103 = .ok (.getfield 7, 3) := by decide +kernel
theorem dX1_tells_106 : decode cX1_tells 106 = .ok (.bipush 21, 2) := by decide +kernel
theorem dX1_tells_108 : decode cX1_tells 108 = .ok (.iaload, 1) := by decide +kernel
theorem dX1_tells_109 : decode cX1_tells 109 = .ok (.aload_n 0, 1) := by decide +kernel
theorem dX1_tells_110 : decode cX1_tells 110 = .ok (.getfield 7, 3) := by decide +kernel
theorem dX1_tells_113 : decode cX1_tells 113 = .ok (.bipush 20, 2) := by decide +kernel
theorem dX1_tells_115 : decode cX1_tells 115 = .ok (.iaload, 1) := by decide +kernel
theorem dX1_tells_116 : decode cX1_tells 116 = .ok (.iand, 1) := by decide +kernel
theorem dX1_tells_117 : decode cX1_tells 117 = .ok (.iconst 1, 1) := by decide +kernel
theorem dX1_tells_118 : decode cX1_tells 118 = .ok (.ishr, 1) := by decide +kernel
theorem dX1_tells_119 : decode cX1_tells 119 = .ok (.ireturn, 1) := by decide +kernel
theorem dX1_tells_120 : decode cX1_tells 120 = .ok (.aload_n 0, 1) := by decide +kernel
theorem dX1_tells_121 : decode cX1_tells 121 = .ok (.getfield 7, 3) := by decide +kernel
theorem dX1_tells_124 : decode cX1_tells 124 = .ok (.bipush 24, 2) := by decide +kernel
theorem dX1_tells_126 : decode cX1_tells 126 = .ok (.iaload, 1) := by decide +kernel
theorem dX1_tells_127 : decode cX1_tells 127 = .ok (.aload_n 0, 1) := by decide +kernel
theorem dX1_tells_128 : decode cX1_tells 128 = .ok (.getfield 7, 3) := by decide +kernel
theorem dX1_tells_131 : decode cX1_tells 131 = .ok (.bipush 20, 2) := by decide +kernel
theorem dX1_tells_133 : decode cX1_tells 133 = .ok (.iaload, 1) := by decide +kernel
theorem dX1_tells_134 : decode cX1_tells 134 = .ok (.iand, 1) := by decide +kernel
theorem dX1_tells_135 : decode cX1_tells 135 = .ok (.iconst 1, 1) := by decide +kernel
theorem dX1_tells_136 : decode cX1_tells 136 = .ok (.ishr, 1) := by decide +kernel
theorem dX1_tells_137 : decode cX1_tells 137 = .ok (.ireturn, 1) := by decide +kernel
theorem dX1_tells_138 : decode cX1_tells 138 = .ok (.aload_n 0, 1) := by decide +kernel
theorem dX1_tells_139 : decode cX1_tells 139 = .ok (.getfield 7, 3) := by decide +kernel
theorem dX1_tells_142 : decode cX1_tells 142 = .ok (.bipush 24, 2) := by decide +kernel
theorem dX1_tells_144 : decode cX1_tells 144 = .ok (.iaload, 1) := by decide +kernel
theorem dX1_tells_145 : decode cX1_tells 145 = .ok (.ireturn, 1) := by decide +kernel
theorem dX1_tells_146 : decode cX1_tells 146 = .ok (.aload_n 0, 1) := by decide +kernel
theorem dX1_tells_147 : decode cX1_tells 147 = .ok (.getfield 20, 3) := by decide +kernel
theorem dX1_tells_150 : decode cX1_tells 150 = .ok (.l2i, 1) := by decide +kernel
theorem dX1_tells_151 : decode cX1_tells 151 = .ok (.ireturn, 1) := by decide +kernel
theorem dX1_tells_152 : decode cX1_tells 152 = .ok (.aload_n 0, 1) := by decide +kernel
theorem dX1_tells_153 : decode cX1_tells 153 = .ok (.getfield 20, 3) := by decide +kernel
theorem dX1_tells_156 : decode cX1_tells 156 = .ok (.bipush 32, 2) := by decide +kernel
theorem dX1_tells_158 : decode cX1_tells 158 = .ok (.lshr, 1) := by decide +kernel
theorem dX1_tells_159 : decode cX1_tells 159 = .ok (.l2i, 1) := by decide +kernel
theorem dX1_tells_160 : decode cX1_tells 160 = .ok (.ireturn, 1) := by decide +kernel
theorem dX1_tells_161 : decode cX1_tells 161 = .ok (.aload_n 0, 1) := by decide +kernel
theorem dX1_tells_162 : decode cX1_tells 162 = .ok (.getfield 7, 3) := by decide +kernel
theorem dX1_tells_165 : decode cX1_tells 165 = .ok (.iload_n 1, 1) := by decide +kernel
theorem dX1_tells_166 : decode cX1_tells 166 = .ok (.iaload, 1) := by decide +kernel
theorem dX1_tells_167 : decode cX1_tells 167 = .ok (.ireturn, 1) := by decide +kernel
theorem dX1_put_0 : decode cX1_put 0 = .ok (.aload_n 0, 1) := by decide +kernel
theorem dX1_put_1 : decode cX1_put 1 = .ok (.getfield 7, 3) := by decide +kernel
theorem dX1_put_4 : decode cX1_put 4 = .ok (.iload_n 1, 1) := by decide +kernel
theorem dX1_put_5 : decode cX1_put 5 = .ok (.aload_n 0, 1) := by decide +kernel
theorem dX1_put_6 : decode cX1_put 6 = .ok (.getfield 7, 3) := by decide +kernel
theorem dX1_put_9 : decode cX1_put 9 = .ok (.iload_n 1, 1) := by decide +kernel
theorem dX1_put_10 : decode cX1_put 10 = .ok (.iaload, 1) := by decide +kernel
theorem dX1_put_11 : decode cX1_put 11 = .ok (.iload_n 2, 1) := by decide +kernel
theorem dX1_put_12 : decode cX1_put 12 = .ok (.iconst (-1), 1) := by decide +kernel
theorem dX1_put_13 : decode cX1_put 13 = .ok (.ixor, 1) := by decide +kernel
theorem dX1_put_14 : decode cX1_put 14 = .ok (.iand, 1) := by decide +kernel
theorem dX1_put_15 : decode cX1_put 15 = .ok (.iload_n 3, 1) := by decide +kernel
theorem dX1_put_16 : decode cX1_put 16 = .ok (.iload_n 2, 1) := by decide +kernel
theorem dX1_put_17 : decode cX1_put 17 = .ok (.iand, 1) := by decide +kernel
theorem dX1_put_18 : decode cX1_put 18 = .ok (.ior, 1) := by decide +kernel
theorem dX1_put_19 : decode cX1_put 19 = .ok (.iastore, 1) := by decide +kernel
theorem dX1_put_20 : decode cX1_put 20 = .ok (.return_, 1) := by decide +kernel
theorem dX1_maskOf_0 : decode cX1_maskOf 0 = .ok (.iload_n 0, 1) := by decide +kernel
theorem dX1_maskOf_1 : decode cX1_maskOf 1 = .ok (.tableswitch 154 0 26 #[123, 126, 130, 154, 133, 154, 154, 139, 136, 123, 154, 130, 154, 133, 154, 154, 154, 136, 141, 144, 147, 147, 154, 154, 147, 154, 151], 123) := by decide +kernel
theorem dX1_maskOf_124 : decode cX1_maskOf 124 = .ok (.ldc 45, 2) := by decide +kernel
theorem dX1_maskOf_126 : decode cX1_maskOf 126 = .ok (.ireturn, 1) := by decide +kernel
theorem dX1_maskOf_127 : decode cX1_maskOf 127 = .ok (.sipush 546, 3) := by decide +kernel
theorem dX1_maskOf_130 : decode cX1_maskOf 130 = .ok (.ireturn, 1) := by decide +kernel
theorem dX1_maskOf_131 : decode cX1_maskOf 131 = .ok (.bipush (-3), 2) := by decide +kernel
theorem dX1_maskOf_133 : decode cX1_maskOf 133 = .ok (.ireturn, 1) := by decide +kernel
theorem dX1_maskOf_134 : decode cX1_maskOf 134 = .ok (.bipush (-4), 2) := by decide +kernel
theorem dX1_maskOf_136 : decode cX1_maskOf 136 = .ok (.ireturn, 1) := by decide +kernel
theorem dX1_maskOf_137 : decode cX1_maskOf 137 = .ok (.ldc 46, 2) := by decide +kernel
theorem dX1_maskOf_139 : decode cX1_maskOf 139 = .ok (.ireturn, 1) := by decide +kernel
theorem dX1_maskOf_140 : decode cX1_maskOf 140 = .ok (.iconst 2, 1) := by decide +kernel
theorem dX1_maskOf_141 : decode cX1_maskOf 141 = .ok (.ireturn, 1) := by decide +kernel
theorem dX1_maskOf_142 : decode cX1_maskOf 142 = .ok (.ldc 47, 2) := by decide +kernel
theorem dX1_maskOf_144 : decode cX1_maskOf 144 = .ok (.ireturn, 1) := by decide +kernel
theorem dX1_maskOf_145 : decode cX1_maskOf 145 = .ok (.ldc 48, 2) := by decide +kernel
theorem dX1_maskOf_147 : decode cX1_maskOf 147 = .ok (.ireturn, 1) := by decide +kernel
theorem dX1_maskOf_148 : decode cX1_maskOf 148 = .ok (.sipush 1092, 3) := by decide +kernel
theorem dX1_maskOf_151 : decode cX1_maskOf 151 = .ok (.ireturn, 1) := by decide +kernel
theorem dX1_maskOf_152 : decode cX1_maskOf 152 = .ok (.ldc 49, 2) := by decide +kernel
theorem dX1_maskOf_154 : decode cX1_maskOf 154 = .ok (.ireturn, 1) := by decide +kernel
theorem dX1_maskOf_155 : decode cX1_maskOf 155 = .ok (.iconst (-1), 1) := by decide +kernel
theorem dX1_maskOf_156 : decode cX1_maskOf 156 = .ok (.ireturn, 1) := by decide +kernel
set_option maxRecDepth 20000 in
theorem ggX1_write_X1_put : GoodIn wsX1_write wsX1_put := goodIn_r _ [6, 1, 15, 16, 17, 18, 19, 20] (by decide +kernel) (by decide +kernel)
set_option maxRecDepth 20000 in
theorem gX1_write_X1_put : GoodIn wsX1_write (wsV RX1 50 RX1 yX1_put wsX1_put) := goodIn_app (goodIn_of _ (by decide +kernel)) ggX1_write_X1_put
set_option maxRecDepth 20000 in
theorem ggX1_write_X1_maskOf : GoodIn wsX1_write wsX1_maskOf := goodIn_r _ [9, 10, 11, 12, 13, 14] (by decide +kernel) (by decide +kernel)
set_option maxRecDepth 20000 in
theorem gX1_write_X1_maskOf : GoodIn wsX1_write (va_wsS RX1 54 yX1_maskOf wsX1_maskOf) := goodIn_app (goodIn_of _ (by decide +kernel)) ggX1_write_X1_maskOf
theorem dX1_write_0 : decode cX1_write 0 = .ok (.iload_n 1, 1) := by decide +kernel
theorem dX1_write_1 : decode cX1_write 1 = .ok (.bipush 10, 2) := by decide +kernel
theorem dX1_write_3 : decode cX1_write 3 = .ok (.if_icmp .ne 26, 3) := by decide +kernel
theorem dX1_write_6 : decode cX1_write 6 = .ok (.aload_n 0, 1) := by decide +kernel
theorem dX1_write_7 : decode cX1_write 7 = .ok (.bipush 21, 2) := by decide +kernel
theorem dX1_write_9 : decode cX1_write 9 = .ok (.aload_n 0, 1) := by decide +kernel
theorem dX1_write_10 : decode cX1_write 10 = .ok (.getfield 7, 3) := by decide +kernel
theorem dX1_write_13 : decode cX1_write 13 = .ok (.bipush 20, 2) := by decide +kernel
theorem dX1_write_15 : decode cX1_write 15 = .ok (.iaload, 1) := by decide +kernel
theorem dX1_write_16 : decode cX1_write 16 = .ok (.sipush 1092, 3) := by decide +kernel
theorem dX1_write_19 : decode cX1_write 19 = .ok (.iand, 1) := by decide +kernel
theorem dX1_write_20 : decode cX1_write 20 = .ok (.iload_n 2, 1) := by decide +kernel
theorem dX1_write_21 : decode cX1_write 21 = .ok (.iconst 1, 1) := by decide +kernel
theorem dX1_write_22 : decode cX1_write 22 = .ok (.ishl, 1) := by decide +kernel
theorem dX1_write_23 : decode cX1_write 23 = .ok (.invokevirtual 50, 3) := by decide +kernel
theorem dX1_write_26 : decode cX1_write 26 = .ok (.goto 59, 3) := by decide +kernel
theorem dX1_write_29 : decode cX1_write 29 = .ok (.iload_n 1, 1) := by decide +kernel
theorem dX1_write_30 : decode cX1_write 30 = .ok (.bipush 16, 2) := by decide +kernel
theorem dX1_write_32 : decode cX1_write 32 = .ok (.if_icmp .ne 24, 3) := by decide +kernel
theorem dX1_write_35 : decode cX1_write 35 = .ok (.aload_n 0, 1) := by decide +kernel
theorem dX1_write_36 : decode cX1_write 36 = .ok (.bipush 24, 2) := by decide +kernel
theorem dX1_write_38 : decode cX1_write 38 = .ok (.aload_n 0, 1) := by decide +kernel
theorem dX1_write_39 : decode cX1_write 39 = .ok (.getfield 7, 3) := by decide +kernel
theorem dX1_write_42 : decode cX1_write 42 = .ok (.bipush 20, 2) := by decide +kernel
theorem dX1_write_44 : decode cX1_write 44 = .ok (.iaload, 1) := by decide +kernel
theorem dX1_write_45 : decode cX1_write 45 = .ok (.iconst 4, 1) := by decide +kernel
theorem dX1_write_46 : decode cX1_write 46 = .ok (.iand, 1) := by decide +kernel
theorem dX1_write_47 : decode cX1_write 47 = .ok (.iload_n 2, 1) := by decide +kernel
theorem dX1_write_48 : decode cX1_write 48 = .ok (.iconst 1, 1) := by decide +kernel
theorem dX1_write_49 : decode cX1_write 49 = .ok (.ishl, 1) := by decide +kernel
theorem dX1_write_50 : decode cX1_write 50 = .ok (.invokevirtual 50, 3) := by decide +kernel
theorem dX1_write_53 : decode cX1_write 53 = .ok (.goto 32, 3) := by decide +kernel
theorem dX1_write_56 : decode cX1_write 56 = .ok (.iload_n 1, 1) := by decide +kernel
theorem dX1_write_57 : decode cX1_write 57 = .ok (.bipush 23, 2) := by decide +kernel
theorem dX1_write_59 : decode cX1_write 59 = .ok (.if_icmp .ne 14, 3) := by decide +kernel
theorem dX1_write_62 : decode cX1_write 62 = .ok (.aload_n 0, 1) := by decide +kernel
theorem dX1_write_63 : decode cX1_write 63 = .ok (.bipush 24, 2) := by decide +kernel
theorem dX1_write_65 : decode cX1_write 65 = .ok (.iconst 4, 1) := by decide +kernel
theorem dX1_write_66 : decode cX1_write 66 = .ok (.iload_n 2, 1) := by decide +kernel
theorem dX1_write_67 : decode cX1_write 67 = .ok (.invokevirtual 50, 3) := by decide +kernel
theorem dX1_write_70 : decode cX1_write 70 = .ok (.goto 15, 3) := by decide +kernel
theorem dX1_write_73 : decode cX1_write 73 = .ok (.aload_n 0, 1) := by decide +kernel
theorem dX1_write_74 : decode cX1_write 74 = .ok (.iload_n 1, 1) := by decide +kernel
theorem dX1_write_75 : decode cX1_write 75 = .ok (.iconst (-1), 1) := by decide +kernel
theorem dX1_write_76 : decode cX1_write 76 = .ok (.iload_n 2, 1) := by decide +kernel
theorem dX1_write_77 : decode cX1_write 77 = .ok (.iload_n 1, 1) := by decide +kernel
theorem dX1_write_78 : decode cX1_write 78 = .ok (.invokestatic 54, 3) := by decide +kernel
theorem dX1_write_81 : decode cX1_write 81 = .ok (.iand, 1) := by decide +kernel
theorem dX1_write_82 : decode cX1_write 82 = .ok (.invokevirtual 50, 3) := by decide +kernel
theorem dX1_write_85 : decode cX1_write 85 = .ok (.return_, 1) := by decide +kernel
set_option maxRecDepth 20000 in
theorem ggX1_refusal_X1_has : GoodIn wsX1_refusal wsX1_has := goodIn_r _ [6, 7, 8, 9, 10, 11, 12, 13] (by decide +kernel) (by decide +kernel)
set_option maxRecDepth 20000 in
theorem gX1_refusal_X1_has : GoodIn wsX1_refusal (wsV RX1 57 RX1 yX1_has wsX1_has) := goodIn_app (goodIn_of _ (by decide +kernel)) ggX1_refusal_X1_has
theorem dX1_refusal_0 : decode cX1_refusal 0 = .ok (.iload_n 1, 1) := by decide +kernel
theorem dX1_refusal_1 : decode cX1_refusal 1 = .ok (.bipush 27, 2) := by decide +kernel
theorem dX1_refusal_3 : decode cX1_refusal 3 = .ok (.if_icmp .eq 9, 3) := by decide +kernel
theorem dX1_refusal_6 : decode cX1_refusal 6 = .ok (.iload_n 1, 1) := by decide +kernel
theorem dX1_refusal_7 : decode cX1_refusal 7 = .ok (.bipush 28, 2) := by decide +kernel
theorem dX1_refusal_9 : decode cX1_refusal 9 = .ok (.if_icmp .ne 7, 3) := by decide +kernel
theorem dX1_refusal_12 : decode cX1_refusal 12 = .ok (.iconst 1, 1) := by decide +kernel
theorem dX1_refusal_13 : decode cX1_refusal 13 = .ok (.goto 4, 3) := by decide +kernel
theorem dX1_refusal_16 : decode cX1_refusal 16 = .ok (.iconst 0, 1) := by decide +kernel
theorem dX1_refusal_17 : decode cX1_refusal 17 = .ok (.istore_n 3, 1) := by decide +kernel
theorem dX1_refusal_18 : decode cX1_refusal 18 = .ok (.iload_n 1, 1) := by decide +kernel
theorem dX1_refusal_19 : decode cX1_refusal 19 = .ok (.iconst (-1), 1) := by decide +kernel
theorem dX1_refusal_20 : decode cX1_refusal 20 = .ok (.if_icmp .eq 11, 3) := by decide +kernel
theorem dX1_refusal_23 : decode cX1_refusal 23 = .ok (.iload_n 3, 1) := by decide +kernel
theorem dX1_refusal_24 : decode cX1_refusal 24 = .ok (.ifCond .eq 9, 3) := by decide +kernel
theorem dX1_refusal_27 : decode cX1_refusal 27 = .ok (.iload_n 2, 1) := by decide +kernel
theorem dX1_refusal_28 : decode cX1_refusal 28 = .ok (.ifCond .eq 5, 3) := by decide +kernel
theorem dX1_refusal_31 : decode cX1_refusal 31 = .ok (.iconst 2, 1) := by decide +kernel
theorem dX1_refusal_32 : decode cX1_refusal 32 = .ok (.ireturn, 1) := by decide +kernel
theorem dX1_refusal_33 : decode cX1_refusal 33 = .ok (.aload_n 0, 1) := by decide +kernel
theorem dX1_refusal_34 : decode cX1_refusal 34 = .ok (.getfield 16, 3) := by decide +kernel
theorem dX1_refusal_37 : decode cX1_refusal 37 = .ok (.iconst 1, 1) := by decide +kernel
theorem dX1_refusal_38 : decode cX1_refusal 38 = .ok (.if_icmp .eq 7, 3) := by decide +kernel
theorem dX1_refusal_41 : decode cX1_refusal 41 = .ok (.iload_n 3, 1) := by decide +kernel
theorem dX1_refusal_42 : decode cX1_refusal 42 = .ok (.ifCond .eq 5, 3) := by decide +kernel
theorem dX1_refusal_45 : decode cX1_refusal 45 = .ok (.iconst 0, 1) := by decide +kernel
theorem dX1_refusal_46 : decode cX1_refusal 46 = .ok (.ireturn, 1) := by decide +kernel
theorem dX1_refusal_47 : decode cX1_refusal 47 = .ok (.aload_n 0, 1) := by decide +kernel
theorem dX1_refusal_48 : decode cX1_refusal 48 = .ok (.getfield 16, 3) := by decide +kernel
theorem dX1_refusal_51 : decode cX1_refusal 51 = .ok (.ifCond .ne 5, 3) := by decide +kernel
theorem dX1_refusal_54 : decode cX1_refusal 54 = .ok (.iconst 2, 1) := by decide +kernel
theorem dX1_refusal_55 : decode cX1_refusal 55 = .ok (.ireturn, 1) := by decide +kernel
theorem dX1_refusal_56 : decode cX1_refusal 56 = .ok (.aload_n 0, 1) := by decide +kernel
theorem dX1_refusal_57 : decode cX1_refusal 57 = .ok (.getfield 16, 3) := by decide +kernel
theorem dX1_refusal_60 : decode cX1_refusal 60 = .ok (.iconst 3, 1) := by decide +kernel
theorem dX1_refusal_61 : decode cX1_refusal 61 = .ok (.if_icmp .ne 30, 3) := by decide +kernel
theorem dX1_refusal_64 : decode cX1_refusal 64 = .ok (.iload_n 1, 1) := by decide +kernel
theorem dX1_refusal_65 : decode cX1_refusal 65 = .ok (.bipush 8, 2) := by decide +kernel
theorem dX1_refusal_67 : decode cX1_refusal 67 = .ok (.if_icmp .gt 24, 3) := by decide +kernel
theorem dX1_refusal_70 : decode cX1_refusal 70 = .ok (.iload_n 1, 1) := by decide +kernel
theorem dX1_refusal_71 : decode cX1_refusal 71 = .ok (.bipush 8, 2) := by decide +kernel
theorem dX1_refusal_73 : decode cX1_refusal 73 = .ok (.if_icmp .ne 14, 3) := by decide +kernel
theorem dX1_refusal_76 : decode cX1_refusal 76 = .ok (.aload_n 0, 1) := by decide +kernel
theorem dX1_refusal_77 : decode cX1_refusal 77 = .ok (.bipush 18, 2) := by decide +kernel
theorem dX1_refusal_79 : decode cX1_refusal 79 = .ok (.bipush 20, 2) := by decide +kernel
theorem dX1_refusal_81 : decode cX1_refusal 81 = .ok (.invokevirtual 57, 3) := by decide +kernel
theorem dX1_refusal_84 : decode cX1_refusal 84 = .ok (.ifCond .ne 7, 3) := by decide +kernel
theorem dX1_refusal_87 : decode cX1_refusal 87 = .ok (.iconst 1, 1) := by decide +kernel
theorem dX1_refusal_88 : decode cX1_refusal 88 = .ok (.goto 4, 3) := by decide +kernel
theorem dX1_refusal_91 : decode cX1_refusal 91 = .ok (.iconst 0, 1) := by decide +kernel
theorem dX1_refusal_92 : decode cX1_refusal 92 = .ok (.istore 4, 2) := by decide +kernel
theorem dX1_refusal_94 : decode cX1_refusal 94 = .ok (.iload 4, 2) := by decide +kernel
theorem dX1_refusal_96 : decode cX1_refusal 96 = .ok (.ifCond .eq 7, 3) := by decide +kernel
theorem dX1_refusal_99 : decode cX1_refusal 99 = .ok (.iconst 0, 1) := by decide +kernel
theorem dX1_refusal_100 : decode cX1_refusal 100 = .ok (.goto 5, 3) := by decide +kernel
theorem dX1_refusal_103 : decode cX1_refusal 103 = .ok (.bipush 22, 2) := by decide +kernel
theorem dX1_refusal_105 : decode cX1_refusal 105 = .ok (.ireturn, 1) := by decide +kernel
set_option maxRecDepth 20000 in
theorem ggX1_access_X1_placeOf : GoodIn wsX1_access wsX1_placeOf := goodIn_r _ [6, 7, 8, 5, 9, 10, 11, 12] (by decide +kernel) (by decide +kernel)
set_option maxRecDepth 20000 in
theorem gX1_access_X1_placeOf : GoodIn wsX1_access (va_wsS RX1 61 yX1_placeOf wsX1_placeOf) := goodIn_app (goodIn_of _ (by decide +kernel)) ggX1_access_X1_placeOf
set_option maxRecDepth 20000 in
theorem ggX1_access_X1_refusal : GoodIn wsX1_access wsX1_refusal := goodIn_r _ [16, 1, 17, 18, 19, 5, 20, 21, 45, 46, 47, 48, 49, 50] (by decide +kernel) (by decide +kernel)
set_option maxRecDepth 20000 in
theorem gX1_access_X1_refusal : GoodIn wsX1_access (wsV RX1 64 RX1 yX1_refusal wsX1_refusal) := goodIn_app (goodIn_of _ (by decide +kernel)) ggX1_access_X1_refusal
set_option maxRecDepth 20000 in
theorem ggX1_access_X1_tells : GoodIn wsX1_access wsX1_tells := goodIn_r _ [25, 21, 26, 27, 28, 45, 46, 47, 48, 49, 50] (by decide +kernel) (by decide +kernel)
set_option maxRecDepth 20000 in
theorem gX1_access_X1_tells : GoodIn wsX1_access (wsV RX1 68 RX1 yX1_tells wsX1_tells) := goodIn_app (goodIn_of _ (by decide +kernel)) ggX1_access_X1_tells
set_option maxRecDepth 20000 in
theorem ggX1_access_X1_write : GoodIn wsX1_access wsX1_write := goodIn_r _ [32, 21, 33, 34, 35, 5, 36, 37, 38, 39, 40, 41, 42, 43, 44, 45, 46, 47, 48, 49, 50] (by decide +kernel) (by decide +kernel)
set_option maxRecDepth 20000 in
theorem gX1_access_X1_write : GoodIn wsX1_access (wsV RX1 71 RX1 yX1_write wsX1_write) := goodIn_app (goodIn_of _ (by decide +kernel)) ggX1_access_X1_write
theorem dX1_access_0 : decode cX1_access 0 = .ok (.iload_n 2, 1) := by decide +kernel
theorem dX1_access_1 : decode cX1_access 1 = .ok (.ifCond .lt 8, 3) := by decide +kernel
theorem dX1_access_4 : decode cX1_access 4 = .ok (.iload_n 2, 1) := by decide +kernel
theorem dX1_access_5 : decode cX1_access 5 = .ok (.iconst 3, 1) := by decide +kernel
theorem dX1_access_6 : decode cX1_access 6 = .ok (.if_icmp .le 5, 3) := by decide +kernel
theorem dX1_access_9 : decode cX1_access 9 = .ok (.iconst (-1), 1) := by decide +kernel
theorem dX1_access_10 : decode cX1_access 10 = .ok (.ireturn, 1) := by decide +kernel
theorem dX1_access_11 : decode cX1_access 11 = .ok (.iload_n 1, 1) := by decide +kernel
theorem dX1_access_12 : decode cX1_access 12 = .ok (.invokestatic 61, 3) := by decide +kernel
theorem dX1_access_15 : decode cX1_access 15 = .ok (.istore 4, 2) := by decide +kernel
theorem dX1_access_17 : decode cX1_access 17 = .ok (.aload_n 0, 1) := by decide +kernel
theorem dX1_access_18 : decode cX1_access 18 = .ok (.iload 4, 2) := by decide +kernel
theorem dX1_access_20 : decode cX1_access 20 = .ok (.iload_n 2, 1) := by decide +kernel
theorem dX1_access_21 : decode cX1_access 21 = .ok (.ifCond .le 7, 3) := by decide +kernel
theorem dX1_access_24 : decode cX1_access 24 = .ok (.iconst 1, 1) := by decide +kernel
theorem dX1_access_25 : decode cX1_access 25 = .ok (.goto 4, 3) := by decide +kernel
theorem dX1_access_28 : decode cX1_access 28 = .ok (.iconst 0, 1) := by decide +kernel
theorem dX1_access_29 : decode cX1_access 29 = .ok (.invokevirtual 64, 3) := by decide +kernel
theorem dX1_access_32 : decode cX1_access 32 = .ok (.istore 5, 2) := by decide +kernel
theorem dX1_access_34 : decode cX1_access 34 = .ok (.iload 5, 2) := by decide +kernel
theorem dX1_access_36 : decode cX1_access 36 = .ok (.ifCond .le 6, 3) := by decide +kernel
theorem dX1_access_39 : decode cX1_access 39 = .ok (.iload 5, 2) := by decide +kernel
theorem dX1_access_41 : decode cX1_access 41 = .ok (.ireturn, 1) := by decide +kernel
theorem dX1_access_42 : decode cX1_access 42 = .ok (.aload_n 0, 1) := by decide +kernel
theorem dX1_access_43 : decode cX1_access 43 = .ok (.getfield 16, 3) := by decide +kernel
theorem dX1_access_46 : decode cX1_access 46 = .ok (.iconst 3, 1) := by decide +kernel
theorem dX1_access_47 : decode cX1_access 47 = .ok (.if_icmp .ne 18, 3) := by decide +kernel
theorem dX1_access_50 : decode cX1_access 50 = .ok (.iload 4, 2) := by decide +kernel
theorem dX1_access_52 : decode cX1_access 52 = .ok (.bipush 8, 2) := by decide +kernel
theorem dX1_access_54 : decode cX1_access 54 = .ok (.if_icmp .gt 11, 3) := by decide +kernel
theorem dX1_access_57 : decode cX1_access 57 = .ok (.iload 4, 2) := by decide +kernel
theorem dX1_access_59 : decode cX1_access 59 = .ok (.bipush 9, 2) := by decide +kernel
theorem dX1_access_61 : decode cX1_access 61 = .ok (.iadd, 1) := by decide +kernel
theorem dX1_access_62 : decode cX1_access 62 = .ok (.goto 5, 3) := by decide +kernel
theorem dX1_access_65 : decode cX1_access 65 = .ok (.iload 4, 2) := by decide +kernel
theorem dX1_access_67 : decode cX1_access 67 = .ok (.istore 6, 2) := by decide +kernel
theorem dX1_access_69 : decode cX1_access 69 = .ok (.aload_n 0, 1) := by decide +kernel
theorem dX1_access_70 : decode cX1_access 70 = .ok (.aload_n 0, 1) := by decide +kernel
theorem dX1_access_71 : decode cX1_access 71 = .ok (.iload 6, 2) := by decide +kernel
theorem dX1_access_73 : decode cX1_access 73 = .ok (.invokevirtual 68, 3) := by decide +kernel
theorem dX1_access_76 : decode cX1_access 76 = .ok (.putfield 33, 3) := by decide +kernel
theorem dX1_access_79 : decode cX1_access 79 = .ok (.iload_n 2, 1) := by decide +kernel
theorem dX1_access_80 : decode cX1_access 80 = .ok (.ifCond .le 40, 3) := by decide +kernel
theorem dX1_access_83 : decode cX1_access 83 = .ok (.aload_n 0, 1) := by decide +kernel
theorem dX1_access_84 : decode cX1_access 84 = .ok (.iload 6, 2) := by decide +kernel
theorem dX1_access_86 : decode cX1_access 86 = .ok (.iload_n 2, 1) := by decide +kernel
theorem dX1_access_87 : decode cX1_access 87 = .ok (.iconst 1, 1) := by decide +kernel
theorem dX1_access_88 : decode cX1_access 88 = .ok (.if_icmp .ne 7, 3) := by decide +kernel
theorem dX1_access_91 : decode cX1_access 91 = .ok (.iload_n 3, 1) := by decide +kernel
theorem dX1_access_92 : decode cX1_access 92 = .ok (.goto 25, 3) := by decide +kernel
theorem dX1_access_95 : decode cX1_access 95 = .ok (.iload_n 2, 1) := by decide +kernel
theorem dX1_access_96 : decode cX1_access 96 = .ok (.iconst 2, 1) := by decide +kernel
theorem dX1_access_97 : decode cX1_access 97 = .ok (.if_icmp .ne 12, 3) := by decide +kernel
theorem dX1_access_100 : decode cX1_access 100 = .ok (.aload_n 0, 1) := by decide +kernel
theorem dX1_access_101 : decode cX1_access 101 = .ok (.getfield 33, 3) := by decide +kernel
theorem dX1_access_104 : decode cX1_access 104 = .ok (.iload_n 3, 1) := by decide +kernel
theorem dX1_access_105 : decode cX1_access 105 = .ok (.ior, 1) := by decide +kernel
theorem dX1_access_106 : decode cX1_access 106 = .ok (.goto 11, 3) := by decide +kernel
theorem dX1_access_109 : decode cX1_access 109 = .ok (.aload_n 0, 1) := by decide +kernel
theorem dX1_access_110 : decode cX1_access 110 = .ok (.getfield 33, 3) := by decide +kernel
theorem dX1_access_113 : decode cX1_access 113 = .ok (.iload_n 3, 1) := by decide +kernel
theorem dX1_access_114 : decode cX1_access 114 = .ok (.iconst (-1), 1) := by decide +kernel
theorem dX1_access_115 : decode cX1_access 115 = .ok (.ixor, 1) := by decide +kernel
theorem dX1_access_116 : decode cX1_access 116 = .ok (.iand, 1) := by decide +kernel
theorem dX1_access_117 : decode cX1_access 117 = .ok (.invokevirtual 71, 3) := by decide +kernel
theorem dX1_access_120 : decode cX1_access 120 = .ok (.iconst 0, 1) := by decide +kernel
theorem dX1_access_121 : decode cX1_access 121 = .ok (.ireturn, 1) := by decide +kernel
theorem dX1_old_0 : decode cX1_old 0 = .ok (.aload_n 0, 1) := by decide +kernel
theorem dX1_old_1 : decode cX1_old 1 = .ok (.getfield 33, 3) := by decide +kernel
theorem dX1_old_4 : decode cX1_old 4 = .ok (.ireturn, 1) := by decide +kernel
set_option maxRecDepth 20000 in
theorem ggX1_control_X1_placeOf : GoodIn wsX1_control wsX1_placeOf := goodIn_r _ [4, 5, 6, 3, 7, 8, 9, 10] (by decide +kernel) (by decide +kernel)
set_option maxRecDepth 20000 in
theorem gX1_control_X1_placeOf : GoodIn wsX1_control (va_wsS RX1 61 yX1_placeOf wsX1_placeOf) := goodIn_app (goodIn_of _ (by decide +kernel)) ggX1_control_X1_placeOf
set_option maxRecDepth 20000 in
theorem ggX1_control_X1_tells : GoodIn wsX1_control wsX1_tells := goodIn_r _ [14, 15, 16, 17, 18, 19, 20, 21, 22, 23, 24] (by decide +kernel) (by decide +kernel)
set_option maxRecDepth 20000 in
theorem gX1_control_X1_tells : GoodIn wsX1_control (wsV RX1 68 RX1 yX1_tells wsX1_tells) := goodIn_app (goodIn_of _ (by decide +kernel)) ggX1_control_X1_tells
theorem dX1_control_0 : decode cX1_control 0 = .ok (.iload_n 1, 1) := by decide +kernel
theorem dX1_control_1 : decode cX1_control 1 = .ok (.invokestatic 61, 3) := by decide +kernel
theorem dX1_control_4 : decode cX1_control 4 = .ok (.istore_n 2, 1) := by decide +kernel
theorem dX1_control_5 : decode cX1_control 5 = .ok (.iload_n 2, 1) := by decide +kernel
theorem dX1_control_6 : decode cX1_control 6 = .ok (.iconst (-1), 1) := by decide +kernel
theorem dX1_control_7 : decode cX1_control 7 = .ok (.if_icmp .ne 7, 3) := by decide +kernel
theorem dX1_control_10 : decode cX1_control 10 = .ok (.iconst 0, 1) := by decide +kernel
theorem dX1_control_11 : decode cX1_control 11 = .ok (.goto 8, 3) := by decide +kernel
theorem dX1_control_14 : decode cX1_control 14 = .ok (.aload_n 0, 1) := by decide +kernel
theorem dX1_control_15 : decode cX1_control 15 = .ok (.iload_n 2, 1) := by decide +kernel
theorem dX1_control_16 : decode cX1_control 16 = .ok (.invokevirtual 68, 3) := by decide +kernel
theorem dX1_control_19 : decode cX1_control 19 = .ok (.ireturn, 1) := by decide +kernel
set_option maxRecDepth 20000 in
theorem ggX1_used_X1_tells : GoodIn wsX1_used wsX1_tells := goodIn_r _ [5, 6, 7, 8, 9, 10, 11, 12, 13, 14, 15] (by decide +kernel) (by decide +kernel)
set_option maxRecDepth 20000 in
theorem gX1_used_X1_tells : GoodIn wsX1_used (wsV RX1 68 RX1 yX1_tells wsX1_tells) := goodIn_app (goodIn_of _ (by decide +kernel)) ggX1_used_X1_tells
theorem dX1_used_0 : decode cX1_used 0 = .ok (.iconst 0, 1) := by decide +kernel
theorem dX1_used_1 : decode cX1_used 1 = .ok (.istore_n 1, 1) := by decide +kernel
theorem dX1_used_2 : decode cX1_used 2 = .ok (.iconst 0, 1) := by decide +kernel
theorem dX1_used_3 : decode cX1_used 3 = .ok (.istore_n 2, 1) := by decide +kernel
theorem dX1_used_4 : decode cX1_used 4 = .ok (.iload_n 2, 1) := by decide +kernel
theorem dX1_used_5 : decode cX1_used 5 = .ok (.bipush 29, 2) := by decide +kernel
theorem dX1_used_7 : decode cX1_used 7 = .ok (.if_icmp .ge 25, 3) := by decide +kernel
theorem dX1_used_10 : decode cX1_used 10 = .ok (.iload_n 1, 1) := by decide +kernel
theorem dX1_used_11 : decode cX1_used 11 = .ok (.aload_n 0, 1) := by decide +kernel
theorem dX1_used_12 : decode cX1_used 12 = .ok (.iload_n 2, 1) := by decide +kernel
theorem dX1_used_13 : decode cX1_used 13 = .ok (.invokevirtual 68, 3) := by decide +kernel
theorem dX1_used_16 : decode cX1_used 16 = .ok (.ifCond .eq 7, 3) := by decide +kernel
theorem dX1_used_19 : decode cX1_used 19 = .ok (.iconst 1, 1) := by decide +kernel
theorem dX1_used_20 : decode cX1_used 20 = .ok (.goto 4, 3) := by decide +kernel
theorem dX1_used_23 : decode cX1_used 23 = .ok (.iconst 0, 1) := by decide +kernel
theorem dX1_used_24 : decode cX1_used 24 = .ok (.iadd, 1) := by decide +kernel
theorem dX1_used_25 : decode cX1_used 25 = .ok (.istore_n 1, 1) := by decide +kernel
theorem dX1_used_26 : decode cX1_used 26 = .ok (.iinc 2 1, 3) := by decide +kernel
theorem dX1_used_29 : decode cX1_used 29 = .ok (.goto (-25), 3) := by decide +kernel
theorem dX1_used_32 : decode cX1_used 32 = .ok (.iload_n 1, 1) := by decide +kernel
theorem dX1_used_33 : decode cX1_used 33 = .ok (.ireturn, 1) := by decide +kernel
theorem dJ7_fill_53178_0 : decode cJ7_fill_53178 0 = .ok (.iconst 0, 1) := by decide +kernel
theorem dJ7_fill_53178_1 : decode cJ7_fill_53178 1 = .ok (.istore_n 2, 1) := by decide +kernel
theorem dJ7_fill_53178_2 : decode cJ7_fill_53178 2 = .ok (.aload_n 0, 1) := by decide +kernel
theorem dJ7_fill_53178_3 : decode cJ7_fill_53178 3 = .ok (.arraylength, 1) := by decide +kernel
theorem dJ7_fill_53178_4 : decode cJ7_fill_53178 4 = .ok (.istore_n 3, 1) := by decide +kernel
theorem dJ7_fill_53178_5 : decode cJ7_fill_53178 5 = .ok (.iload_n 2, 1) := by decide +kernel
theorem dJ7_fill_53178_6 : decode cJ7_fill_53178 6 = .ok (.iload_n 3, 1) := by decide +kernel
theorem dJ7_fill_53178_7 : decode cJ7_fill_53178 7 = .ok (.if_icmp .ge 13, 3) := by decide +kernel
theorem dJ7_fill_53178_10 : decode cJ7_fill_53178 10 = .ok (.aload_n 0, 1) := by decide +kernel
theorem dJ7_fill_53178_11 : decode cJ7_fill_53178 11 = .ok (.iload_n 2, 1) := by decide +kernel
theorem dJ7_fill_53178_12 : decode cJ7_fill_53178 12 = .ok (.iload_n 1, 1) := by decide +kernel
theorem dJ7_fill_53178_13 : decode cJ7_fill_53178 13 = .ok (.iastore, 1) := by decide +kernel
theorem dJ7_fill_53178_14 : decode cJ7_fill_53178 14 = .ok (.iinc 2 1, 3) := by decide +kernel
theorem dJ7_fill_53178_17 : decode cJ7_fill_53178 17 = .ok (.goto (-12), 3) := by decide +kernel
theorem dJ7_fill_53178_20 : decode cJ7_fill_53178 20 = .ok (.return_, 1) := by decide +kernel
set_option maxRecDepth 20000 in
theorem ggL_law_X0_init : GoodIn wsL_law wsX0_init := goodIn_r _ [8, 9, 10, 11, 12, 13, 14, 15, 16, 2, 17, 18, 19, 20, 21, 22, 23, 24, 25, 26, 27, 207, 208, 209, 210, 211, 212] (by decide +kernel) (by decide +kernel)
set_option maxRecDepth 20000 in
theorem gL_law_X0_init : GoodIn wsL_law (wsX0_init) := ggL_law_X0_init
set_option maxRecDepth 20000 in
theorem ggL_law_X1_init : GoodIn wsL_law wsX1_init := goodIn_r _ [30, 31, 10, 11, 12, 32, 33, 34, 35, 5, 36, 37, 38, 39, 40, 41, 42, 213, 214, 215, 216, 217, 218] (by decide +kernel) (by decide +kernel)
set_option maxRecDepth 20000 in
theorem gL_law_X1_init : GoodIn wsL_law (wsX1_init) := ggL_law_X1_init
set_option maxRecDepth 20000 in
theorem ggL_law_X0_begin : GoodIn wsL_law wsX0_begin := goodIn_r _ [46, 14, 15, 16, 2, 17, 13, 18, 19, 20, 21, 22, 23, 24, 25, 26, 27, 207, 208, 209, 210, 211, 212] (by decide +kernel) (by decide +kernel)
set_option maxRecDepth 20000 in
theorem gL_law_X0_begin : GoodIn wsL_law (wsV RL 13 RX0 yX0_begin wsX0_begin) := goodIn_app (goodIn_of _ (by decide +kernel)) ggL_law_X0_begin
set_option maxRecDepth 20000 in
theorem ggL_law_X1_begin : GoodIn wsL_law wsX1_begin := goodIn_r _ [36, 32, 37, 38, 39, 40, 41, 42, 213, 214, 215, 216, 217, 218] (by decide +kernel) (by decide +kernel)
set_option maxRecDepth 20000 in
theorem gL_law_X1_begin : GoodIn wsL_law (wsV RL 16 RX1 yX1_begin wsX1_begin) := goodIn_app (goodIn_of _ (by decide +kernel)) ggL_law_X1_begin
set_option maxRecDepth 20000 in
theorem ggL_law_X0_mode : GoodIn wsL_law wsX0_mode := goodIn_r _ [51, 18, 207, 208, 209, 210, 211, 212] (by decide +kernel) (by decide +kernel)
set_option maxRecDepth 20000 in
theorem gL_law_X0_mode : GoodIn wsL_law (wsV RL 17 RX0 yX0_mode wsX0_mode) := goodIn_app (goodIn_of _ (by decide +kernel)) ggL_law_X0_mode
set_option maxRecDepth 20000 in
theorem ggL_law_X1_mode : GoodIn wsL_law wsX1_mode := goodIn_r _ [55, 37, 213, 214, 215, 216, 217, 218] (by decide +kernel) (by decide +kernel)
set_option maxRecDepth 20000 in
theorem gL_law_X1_mode : GoodIn wsL_law (wsV RL 21 RX1 yX1_mode wsX1_mode) := goodIn_app (goodIn_of _ (by decide +kernel)) ggL_law_X1_mode
set_option maxRecDepth 20000 in
theorem ggL_law_X0_time : GoodIn wsL_law wsX0_time := goodIn_r _ [59, 60, 19, 207, 208, 209, 210, 211, 212] (by decide +kernel) (by decide +kernel)
set_option maxRecDepth 20000 in
theorem gL_law_X0_time : GoodIn wsL_law (wsV RL 24 RX0 yX0_time wsX0_time) := goodIn_app (goodIn_of _ (by decide +kernel)) ggL_law_X0_time
set_option maxRecDepth 20000 in
theorem ggL_law_X1_time : GoodIn wsL_law wsX1_time := goodIn_r _ [64, 65, 38, 213, 214, 215, 216, 217, 218] (by decide +kernel) (by decide +kernel)
set_option maxRecDepth 20000 in
theorem gL_law_X1_time : GoodIn wsL_law (wsV RL 28 RX1 yX1_time wsX1_time) := goodIn_app (goodIn_of _ (by decide +kernel)) ggL_law_X1_time
set_option maxRecDepth 20000 in
theorem ggL_law_X0_alarm : GoodIn wsL_law wsX0_alarm := goodIn_r _ [69, 21, 20, 207, 208, 209, 210, 211, 212] (by decide +kernel) (by decide +kernel)
set_option maxRecDepth 20000 in
theorem gL_law_X0_alarm : GoodIn wsL_law (wsV RL 29 RX0 yX0_alarm wsX0_alarm) := goodIn_app (goodIn_of _ (by decide +kernel)) ggL_law_X0_alarm
set_option maxRecDepth 20000 in
theorem ggL_law_X1_alarm : GoodIn wsL_law wsX1_alarm := goodIn_r _ [73, 40, 39, 213, 214, 215, 216, 217, 218] (by decide +kernel) (by decide +kernel)
set_option maxRecDepth 20000 in
theorem gL_law_X1_alarm : GoodIn wsL_law (wsV RL 32 RX1 yX1_alarm wsX1_alarm) := goodIn_app (goodIn_of _ (by decide +kernel)) ggL_law_X1_alarm
set_option maxRecDepth 20000 in
theorem ggL_law_X0_line : GoodIn wsL_law wsX0_line := goodIn_r _ [77, 22, 207, 208, 209, 210, 211, 212] (by decide +kernel) (by decide +kernel)
set_option maxRecDepth 20000 in
theorem gL_law_X0_line : GoodIn wsL_law (wsV RL 33 RX0 yX0_line wsX0_line) := goodIn_app (goodIn_of _ (by decide +kernel)) ggL_law_X0_line
set_option maxRecDepth 20000 in
theorem ggL_law_X1_line : GoodIn wsL_law wsX1_line := goodIn_r _ [81, 41, 213, 214, 215, 216, 217, 218] (by decide +kernel) (by decide +kernel)
set_option maxRecDepth 20000 in
theorem gL_law_X1_line : GoodIn wsL_law (wsV RL 37 RX1 yX1_line wsX1_line) := goodIn_app (goodIn_of _ (by decide +kernel)) ggL_law_X1_line
set_option maxRecDepth 20000 in
theorem ggL_law_X0_access : GoodIn wsL_law wsX0_access := goodIn_r _ [85, 18, 23, 86, 87, 2, 88, 89, 90, 91, 92, 93, 94, 95, 96, 97, 98, 99, 100, 101, 102, 103, 13, 104, 105, 106, 107, 108, 19, 109, 110, 111, 112, 21, 22, 113, 114, 115, 116, 117, 118, 119, 120, 121, 122, 123, 124, 207, 208, 209, 210, 211, 212] (by decide +kernel) (by decide +kernel)
set_option maxRecDepth 20000 in
theorem gL_law_X0_access : GoodIn wsL_law (wsV RL 38 RX0 yX0_access wsX0_access) := goodIn_app (goodIn_of _ (by decide +kernel)) ggL_law_X0_access
set_option maxRecDepth 20000 in
theorem ggL_law_X1_access : GoodIn wsL_law wsX1_access := goodIn_r _ [128, 37, 42, 129, 130, 5, 131, 132, 133, 134, 135, 136, 137, 138, 139, 140, 141, 142, 143, 144, 145, 32, 146, 147, 148, 149, 38, 40, 41, 150, 151, 152, 153, 154, 155, 156, 157, 158, 159, 160, 161, 162, 163, 164, 165, 213, 214, 215, 216, 217, 218] (by decide +kernel) (by decide +kernel)
set_option maxRecDepth 20000 in
theorem gL_law_X1_access : GoodIn wsL_law (wsV RL 42 RX1 yX1_access wsX1_access) := goodIn_app (goodIn_of _ (by decide +kernel)) ggL_law_X1_access
set_option maxRecDepth 20000 in
theorem ggL_law_X0_old : GoodIn wsL_law wsX0_old := goodIn_r _ [169, 23, 207, 208, 209, 210, 211, 212] (by decide +kernel) (by decide +kernel)
set_option maxRecDepth 20000 in
theorem gL_law_X0_old : GoodIn wsL_law (wsV RL 43 RX0 yX0_old wsX0_old) := goodIn_app (goodIn_of _ (by decide +kernel)) ggL_law_X0_old
set_option maxRecDepth 20000 in
theorem ggL_law_X1_old : GoodIn wsL_law wsX1_old := goodIn_r _ [173, 42, 213, 214, 215, 216, 217, 218] (by decide +kernel) (by decide +kernel)
set_option maxRecDepth 20000 in
theorem gL_law_X1_old : GoodIn wsL_law (wsV RL 47 RX1 yX1_old wsX1_old) := goodIn_app (goodIn_of _ (by decide +kernel)) ggL_law_X1_old
set_option maxRecDepth 20000 in
theorem ggL_law_X0_control : GoodIn wsL_law wsX0_control := goodIn_r _ [177, 86, 87, 2, 88, 89, 105, 106, 107, 108, 13, 19, 109, 110, 111, 112, 21, 22, 207, 208, 209, 210, 211, 212] (by decide +kernel) (by decide +kernel)
set_option maxRecDepth 20000 in
theorem gL_law_X0_control : GoodIn wsL_law (wsV RL 48 RX0 yX0_control wsX0_control) := goodIn_app (goodIn_of _ (by decide +kernel)) ggL_law_X0_control
set_option maxRecDepth 20000 in
theorem ggL_law_X1_control : GoodIn wsL_law wsX1_control := goodIn_r _ [181, 129, 130, 5, 131, 132, 133, 134, 135, 136, 137, 146, 147, 148, 149, 32, 38, 40, 41, 213, 214, 215, 216, 217, 218] (by decide +kernel) (by decide +kernel)
set_option maxRecDepth 20000 in
theorem gL_law_X1_control : GoodIn wsL_law (wsV RL 51 RX1 yX1_control wsX1_control) := goodIn_app (goodIn_of _ (by decide +kernel)) ggL_law_X1_control
set_option maxRecDepth 20000 in
theorem ggL_law_X0_used : GoodIn wsL_law wsX0_used := goodIn_r _ [185, 105, 106, 107, 2, 108, 13, 19, 109, 110, 111, 112, 21, 22, 207, 208, 209, 210, 211, 212] (by decide +kernel) (by decide +kernel)
set_option maxRecDepth 20000 in
theorem gL_law_X0_used : GoodIn wsL_law (wsV RL 52 RX0 yX0_used wsX0_used) := goodIn_app (goodIn_of _ (by decide +kernel)) ggL_law_X0_used
set_option maxRecDepth 20000 in
theorem ggL_law_X1_used : GoodIn wsL_law wsX1_used := goodIn_r _ [189, 146, 147, 148, 5, 149, 32, 38, 40, 41, 213, 214, 215, 216, 217, 218] (by decide +kernel) (by decide +kernel)
set_option maxRecDepth 20000 in
theorem gL_law_X1_used : GoodIn wsL_law (wsV RL 55 RX1 yX1_used wsX1_used) := goodIn_app (goodIn_of _ (by decide +kernel)) ggL_law_X1_used
set_option maxRecDepth 20000 in
theorem ggL_law_X0_due : GoodIn wsL_law wsX0_due := goodIn_r _ [193, 194, 195, 196, 2, 197, 18, 13, 198, 109, 110, 111, 112, 19, 21, 22, 199, 200, 201, 202, 203, 204, 205, 206, 207, 208, 209, 210, 211, 212] (by decide +kernel) (by decide +kernel)
set_option maxRecDepth 20000 in
theorem gL_law_X0_due : GoodIn wsL_law (wsV RL 56 RX0 yX0_due wsX0_due) := goodIn_app (goodIn_of _ (by decide +kernel)) ggL_law_X0_due
theorem dL_law_0 : decode cL_law 0 = .ok (.new 7, 3) := by decide +kernel
theorem dL_law_3 : decode cL_law 3 = .ok (.dup, 1) := by decide +kernel
theorem dL_law_4 : decode cL_law 4 = .ok (.invokespecial 9, 3) := by decide +kernel
theorem dL_law_7 : decode cL_law 7 = .ok (.astore_n 1, 1) := by decide +kernel
theorem dL_law_8 : decode cL_law 8 = .ok (.new 10, 3) := by decide +kernel
theorem dL_law_11 : decode cL_law 11 = .ok (.dup, 1) := by decide +kernel
theorem dL_law_12 : decode cL_law 12 = .ok (.invokespecial 12, 3) := by decide +kernel
theorem dL_law_15 : decode cL_law 15 = .ok (.astore_n 2, 1) := by decide +kernel
theorem dL_law_16 : decode cL_law 16 = .ok (.iconst 0, 1) := by decide +kernel
theorem dL_law_17 : decode cL_law 17 = .ok (.istore_n 3, 1) := by decide +kernel
theorem dL_law_18 : decode cL_law 18 = .ok (.iload_n 3, 1) := by decide +kernel
theorem dL_law_19 : decode cL_law 19 = .ok (.aload_n 0, 1) := by decide +kernel
theorem dL_law_20 : decode cL_law 20 = .ok (.arraylength, 1) := by decide +kernel
theorem dL_law_21 : decode cL_law 21 = .ok (.iconst 4, 1) := by decide +kernel
theorem dL_law_22 : decode cL_law 22 = .ok (.isub, 1) := by decide +kernel
theorem dL_law_23 : decode cL_law 23 = .ok (.if_icmp .gt 357, 3) := by decide +kernel
theorem dL_law_26 : decode cL_law 26 = .ok (.aload_n 0, 1) := by decide +kernel
theorem dL_law_27 : decode cL_law 27 = .ok (.iload_n 3, 1) := by decide +kernel
theorem dL_law_28 : decode cL_law 28 = .ok (.iaload, 1) := by decide +kernel
theorem dL_law_29 : decode cL_law 29 = .ok (.bipush 15, 2) := by decide +kernel
theorem dL_law_31 : decode cL_law 31 = .ok (.iand, 1) := by decide +kernel
theorem dL_law_32 : decode cL_law 32 = .ok (.tableswitch 342 0 9 #[56, 67, 90, 144, 198, 237, 280, 293, 316, 329], 56) := by decide +kernel
theorem dL_law_88 : decode cL_law 88 = .ok (.aload_n 1, 1) := by decide +kernel
theorem dL_law_89 : decode cL_law 89 = .ok (.invokevirtual 13, 3) := by decide +kernel
theorem dL_law_92 : decode cL_law 92 = .ok (.aload_n 2, 1) := by decide +kernel
theorem dL_law_93 : decode cL_law 93 = .ok (.invokevirtual 16, 3) := by decide +kernel
theorem dL_law_96 : decode cL_law 96 = .ok (.goto 278, 3) := by decide +kernel
theorem dL_law_99 : decode cL_law 99 = .ok (.aload_n 1, 1) := by decide +kernel
theorem dL_law_100 : decode cL_law 100 = .ok (.aload_n 0, 1) := by decide +kernel
theorem dL_law_101 : decode cL_law 101 = .ok (.iload_n 3, 1) := by decide +kernel
theorem dL_law_102 : decode cL_law 102 = .ok (.iconst 1, 1) := by decide +kernel
theorem dL_law_103 : decode cL_law 103 = .ok (.iadd, 1) := by decide +kernel
theorem dL_law_104 : decode cL_law 104 = .ok (.iaload, 1) := by decide +kernel
theorem dL_law_105 : decode cL_law 105 = .ok (.invokevirtual 17, 3) := by decide +kernel
theorem dL_law_108 : decode cL_law 108 = .ok (.aload_n 2, 1) := by decide +kernel
theorem dL_law_109 : decode cL_law 109 = .ok (.aload_n 0, 1) := by decide +kernel
theorem dL_law_110 : decode cL_law 110 = .ok (.iload_n 3, 1) := by decide +kernel
theorem dL_law_111 : decode cL_law 111 = .ok (.iconst 1, 1) := by decide +kernel
theorem dL_law_112 : decode cL_law 112 = .ok (.iadd, 1) := by decide +kernel
theorem dL_law_113 : decode cL_law 113 = .ok (.iaload, 1) := by decide +kernel
theorem dL_law_114 : decode cL_law 114 = .ok (.invokevirtual 21, 3) := by decide +kernel
theorem dL_law_117 : decode cL_law 117 = .ok (.if_icmp .eq 257, 3) := by decide +kernel
theorem dL_law_120 : decode cL_law 120 = .ok (.iconst 0, 1) := by decide +kernel
theorem dL_law_121 : decode cL_law 121 = .ok (.ireturn, 1) := by decide +kernel
theorem dL_law_122 : decode cL_law 122 = .ok (.aload_n 1, 1) := by decide +kernel
theorem dL_law_123 : decode cL_law 123 = .ok (.aload_n 0, 1) := by decide +kernel
theorem dL_law_124 : decode cL_law 124 = .ok (.iload_n 3, 1) := by decide +kernel
theorem dL_law_125 : decode cL_law 125 = .ok (.iconst 1, 1) := by decide +kernel
theorem dL_law_126 : decode cL_law 126 = .ok (.iadd, 1) := by decide +kernel
theorem dL_law_127 : decode cL_law 127 = .ok (.iaload, 1) := by decide +kernel
theorem dL_law_128 : decode cL_law 128 = .ok (.i2l, 1) := by decide +kernel
theorem dL_law_129 : decode cL_law 129 = .ok (.bipush 32, 2) := by decide +kernel
theorem dL_law_131 : decode cL_law 131 = .ok (.lshl, 1) := by decide +kernel
theorem dL_law_132 : decode cL_law 132 = .ok (.aload_n 0, 1) := by decide +kernel
theorem dL_law_133 : decode cL_law 133 = .ok (.iload_n 3, 1) := by decide +kernel
theorem dL_law_134 : decode cL_law 134 = .ok (.iconst 2, 1) := by decide +kernel
theorem dL_law_135 : decode cL_law 135 = .ok (.iadd, 1) := by decide +kernel
theorem dL_law_136 : decode cL_law 136 = .ok (.iaload, 1) := by decide +kernel
theorem dL_law_137 : decode cL_law 137 = .ok (.i2l, 1) := by decide +kernel
theorem dL_law_138 : decode cL_law 138 = .ok (.ldc2_w 22, 3) := by decide +kernel
theorem dL_law_141 : decode cL_law 141 = .ok (.land, 1) := by decide +kernel
theorem dL_law_142 : decode cL_law 142 = .ok (.lor, 1) := by decide +kernel
theorem dL_law_143 : decode cL_law 143 = .ok (.invokevirtual 24, 3) := by decide +kernel
theorem dL_law_146 : decode cL_law 146 = .ok (.aload_n 2, 1) := by decide +kernel
theorem dL_law_147 : decode cL_law 147 = .ok (.aload_n 0, 1) := by decide +kernel
theorem dL_law_148 : decode cL_law 148 = .ok (.iload_n 3, 1) := by decide +kernel
theorem dL_law_149 : decode cL_law 149 = .ok (.iconst 1, 1) := by decide +kernel
theorem dL_law_150 : decode cL_law 150 = .ok (.iadd, 1) := by decide +kernel
theorem dL_law_151 : decode cL_law 151 = .ok (.iaload, 1) := by decide +kernel
theorem dL_law_152 : decode cL_law 152 = .ok (.i2l, 1) := by decide +kernel
theorem dL_law_153 : decode cL_law 153 = .ok (.bipush 32, 2) := by decide +kernel
theorem dL_law_155 : decode cL_law 155 = .ok (.lshl, 1) := by decide +kernel
theorem dL_law_156 : decode cL_law 156 = .ok (.aload_n 0, 1) := by decide +kernel
theorem dL_law_157 : decode cL_law 157 = .ok (.iload_n 3, 1) := by decide +kernel
theorem dL_law_158 : decode cL_law 158 = .ok (.iconst 2, 1) := by decide +kernel
theorem dL_law_159 : decode cL_law 159 = .ok (.iadd, 1) := by decide +kernel
theorem dL_law_160 : decode cL_law 160 = .ok (.iaload, 1) := by decide +kernel
theorem dL_law_161 : decode cL_law 161 = .ok (.i2l, 1) := by decide +kernel
theorem dL_law_162 : decode cL_law 162 = .ok (.ldc2_w 22, 3) := by decide +kernel
theorem dL_law_165 : decode cL_law 165 = .ok (.land, 1) := by decide +kernel
theorem dL_law_166 : decode cL_law 166 = .ok (.lor, 1) := by decide +kernel
theorem dL_law_167 : decode cL_law 167 = .ok (.invokevirtual 28, 3) := by decide +kernel
theorem dL_law_170 : decode cL_law 170 = .ok (.lcmp, 1) := by decide +kernel
theorem dL_law_171 : decode cL_law 171 = .ok (.ifCond .eq 203, 3) := by decide +kernel
theorem dL_law_174 : decode cL_law 174 = .ok (.iconst 0, 1) := by decide +kernel
theorem dL_law_175 : decode cL_law 175 = .ok (.ireturn, 1) := by decide +kernel
theorem dL_law_176 : decode cL_law 176 = .ok (.aload_n 1, 1) := by decide +kernel
theorem dL_law_177 : decode cL_law 177 = .ok (.aload_n 0, 1) := by decide +kernel
theorem dL_law_178 : decode cL_law 178 = .ok (.iload_n 3, 1) := by decide +kernel
theorem dL_law_179 : decode cL_law 179 = .ok (.iconst 1, 1) := by decide +kernel
theorem dL_law_180 : decode cL_law 180 = .ok (.iadd, 1) := by decide +kernel
theorem dL_law_181 : decode cL_law 181 = .ok (.iaload, 1) := by decide +kernel
theorem dL_law_182 : decode cL_law 182 = .ok (.i2l, 1) := by decide +kernel
theorem dL_law_183 : decode cL_law 183 = .ok (.bipush 32, 2) := by decide +kernel
theorem dL_law_185 : decode cL_law 185 = .ok (.lshl, 1) := by decide +kernel
theorem dL_law_186 : decode cL_law 186 = .ok (.aload_n 0, 1) := by decide +kernel
theorem dL_law_187 : decode cL_law 187 = .ok (.iload_n 3, 1) := by decide +kernel
theorem dL_law_188 : decode cL_law 188 = .ok (.iconst 2, 1) := by decide +kernel
theorem dL_law_189 : decode cL_law 189 = .ok (.iadd, 1) := by decide +kernel
theorem dL_law_190 : decode cL_law 190 = .ok (.iaload, 1) := by decide +kernel
theorem dL_law_191 : decode cL_law 191 = .ok (.i2l, 1) := by decide +kernel
theorem dL_law_192 : decode cL_law 192 = .ok (.ldc2_w 22, 3) := by decide +kernel
theorem dL_law_195 : decode cL_law 195 = .ok (.land, 1) := by decide +kernel
theorem dL_law_196 : decode cL_law 196 = .ok (.lor, 1) := by decide +kernel
theorem dL_law_197 : decode cL_law 197 = .ok (.invokevirtual 29, 3) := by decide +kernel
theorem dL_law_200 : decode cL_law 200 = .ok (.aload_n 2, 1) := by decide +kernel
theorem dL_law_201 : decode cL_law 201 = .ok (.aload_n 0, 1) := by decide +kernel
theorem dL_law_202 : decode cL_law 202 = .ok (.iload_n 3, 1) := by decide +kernel
theorem dL_law_203 : decode cL_law 203 = .ok (.iconst 1, 1) := by decide +kernel
theorem dL_law_204 : decode cL_law 204 = .ok (.iadd, 1) := by decide +kernel
theorem dL_law_205 : decode cL_law 205 = .ok (.iaload, 1) := by decide +kernel
theorem dL_law_206 : decode cL_law 206 = .ok (.i2l, 1) := by decide +kernel
theorem dL_law_207 : decode cL_law 207 = .ok (.bipush 32, 2) := by decide +kernel
theorem dL_law_209 : decode cL_law 209 = .ok (.lshl, 1) := by decide +kernel
theorem dL_law_210 : decode cL_law 210 = .ok (.aload_n 0, 1) := by decide +kernel
theorem dL_law_211 : decode cL_law 211 = .ok (.iload_n 3, 1) := by decide +kernel
theorem dL_law_212 : decode cL_law 212 = .ok (.iconst 2, 1) := by decide +kernel
theorem dL_law_213 : decode cL_law 213 = .ok (.iadd, 1) := by decide +kernel
theorem dL_law_214 : decode cL_law 214 = .ok (.iaload, 1) := by decide +kernel
theorem dL_law_215 : decode cL_law 215 = .ok (.i2l, 1) := by decide +kernel
theorem dL_law_216 : decode cL_law 216 = .ok (.ldc2_w 22, 3) := by decide +kernel
theorem dL_law_219 : decode cL_law 219 = .ok (.land, 1) := by decide +kernel
theorem dL_law_220 : decode cL_law 220 = .ok (.lor, 1) := by decide +kernel
theorem dL_law_221 : decode cL_law 221 = .ok (.invokevirtual 32, 3) := by decide +kernel
theorem dL_law_224 : decode cL_law 224 = .ok (.lcmp, 1) := by decide +kernel
theorem dL_law_225 : decode cL_law 225 = .ok (.ifCond .eq 149, 3) := by decide +kernel
theorem dL_law_228 : decode cL_law 228 = .ok (.iconst 0, 1) := by decide +kernel
theorem dL_law_229 : decode cL_law 229 = .ok (.ireturn, 1) := by decide +kernel
theorem dL_law_230 : decode cL_law 230 = .ok (.aload_n 1, 1) := by decide +kernel
theorem dL_law_231 : decode cL_law 231 = .ok (.aload_n 0, 1) := by decide +kernel
theorem dL_law_232 : decode cL_law 232 = .ok (.iload_n 3, 1) := by decide +kernel
theorem dL_law_233 : decode cL_law 233 = .ok (.iconst 1, 1) := by decide +kernel
theorem dL_law_234 : decode cL_law 234 = .ok (.iadd, 1) := by decide +kernel
theorem dL_law_235 : decode cL_law 235 = .ok (.iaload, 1) := by decide +kernel
theorem dL_law_236 : decode cL_law 236 = .ok (.ifCond .eq 7, 3) := by decide +kernel
theorem dL_law_239 : decode cL_law 239 = .ok (.iconst 1, 1) := by decide +kernel
theorem dL_law_240 : decode cL_law 240 = .ok (.goto 4, 3) := by decide +kernel
theorem dL_law_243 : decode cL_law 243 = .ok (.iconst 0, 1) := by decide +kernel
theorem dL_law_244 : decode cL_law 244 = .ok (.invokevirtual 33, 3) := by decide +kernel
theorem dL_law_247 : decode cL_law 247 = .ok (.aload_n 2, 1) := by decide +kernel
theorem dL_law_248 : decode cL_law 248 = .ok (.aload_n 0, 1) := by decide +kernel
theorem dL_law_249 : decode cL_law 249 = .ok (.iload_n 3, 1) := by decide +kernel
theorem dL_law_250 : decode cL_law 250 = .ok (.iconst 1, 1) := by decide +kernel
theorem dL_law_251 : decode cL_law 251 = .ok (.iadd, 1) := by decide +kernel
theorem dL_law_252 : decode cL_law 252 = .ok (.iaload, 1) := by decide +kernel
theorem dL_law_253 : decode cL_law 253 = .ok (.ifCond .eq 7, 3) := by decide +kernel
theorem dL_law_256 : decode cL_law 256 = .ok (.iconst 1, 1) := by decide +kernel
theorem dL_law_257 : decode cL_law 257 = .ok (.goto 4, 3) := by decide +kernel
theorem dL_law_260 : decode cL_law 260 = .ok (.iconst 0, 1) := by decide +kernel
theorem dL_law_261 : decode cL_law 261 = .ok (.invokevirtual 37, 3) := by decide +kernel
theorem dL_law_264 : decode cL_law 264 = .ok (.if_icmp .eq 110, 3) := by decide +kernel
theorem dL_law_267 : decode cL_law 267 = .ok (.iconst 0, 1) := by decide +kernel
theorem dL_law_268 : decode cL_law 268 = .ok (.ireturn, 1) := by decide +kernel
theorem dL_law_269 : decode cL_law 269 = .ok (.aload_n 1, 1) := by decide +kernel
theorem dL_law_270 : decode cL_law 270 = .ok (.aload_n 0, 1) := by decide +kernel
theorem dL_law_271 : decode cL_law 271 = .ok (.iload_n 3, 1) := by decide +kernel
theorem dL_law_272 : decode cL_law 272 = .ok (.iconst 1, 1) := by decide +kernel
theorem dL_law_273 : decode cL_law 273 = .ok (.iadd, 1) := by decide +kernel
theorem dL_law_274 : decode cL_law 274 = .ok (.iaload, 1) := by decide +kernel
theorem dL_law_275 : decode cL_law 275 = .ok (.aload_n 0, 1) := by decide +kernel
theorem dL_law_276 : decode cL_law 276 = .ok (.iload_n 3, 1) := by decide +kernel
theorem dL_law_277 : decode cL_law 277 = .ok (.iconst 2, 1) := by decide +kernel
theorem dL_law_278 : decode cL_law 278 = .ok (.iadd, 1) := by decide +kernel
theorem dL_law_279 : decode cL_law 279 = .ok (.iaload, 1) := by decide +kernel
theorem dL_law_280 : decode cL_law 280 = .ok (.aload_n 0, 1) := by decide +kernel
theorem dL_law_281 : decode cL_law 281 = .ok (.iload_n 3, 1) := by decide +kernel
theorem dL_law_282 : decode cL_law 282 = .ok (.iconst 3, 1) := by decide +kernel
theorem dL_law_283 : decode cL_law 283 = .ok (.iadd, 1) := by decide +kernel
theorem dL_law_284 : decode cL_law 284 = .ok (.iaload, 1) := by decide +kernel
theorem dL_law_285 : decode cL_law 285 = .ok (.invokevirtual 38, 3) := by decide +kernel
theorem dL_law_288 : decode cL_law 288 = .ok (.aload_n 2, 1) := by decide +kernel
theorem dL_law_289 : decode cL_law 289 = .ok (.aload_n 0, 1) := by decide +kernel
theorem dL_law_290 : decode cL_law 290 = .ok (.iload_n 3, 1) := by decide +kernel
theorem dL_law_291 : decode cL_law 291 = .ok (.iconst 1, 1) := by decide +kernel
theorem dL_law_292 : decode cL_law 292 = .ok (.iadd, 1) := by decide +kernel
theorem dL_law_293 : decode cL_law 293 = .ok (.iaload, 1) := by decide +kernel
theorem dL_law_294 : decode cL_law 294 = .ok (.aload_n 0, 1) := by decide +kernel
theorem dL_law_295 : decode cL_law 295 = .ok (.iload_n 3, 1) := by decide +kernel
theorem dL_law_296 : decode cL_law 296 = .ok (.iconst 2, 1) := by decide +kernel
theorem dL_law_297 : decode cL_law 297 = .ok (.iadd, 1) := by decide +kernel
theorem dL_law_298 : decode cL_law 298 = .ok (.iaload, 1) := by decide +kernel
theorem dL_law_299 : decode cL_law 299 = .ok (.aload_n 0, 1) := by decide +kernel
theorem dL_law_300 : decode cL_law 300 = .ok (.iload_n 3, 1) := by decide +kernel
theorem dL_law_301 : decode cL_law 301 = .ok (.iconst 3, 1) := by decide +kernel
theorem dL_law_302 : decode cL_law 302 = .ok (.iadd, 1) := by decide +kernel
theorem dL_law_303 : decode cL_law 303 = .ok (.iaload, 1) := by decide +kernel
theorem dL_law_304 : decode cL_law 304 = .ok (.invokevirtual 42, 3) := by decide +kernel
theorem dL_law_307 : decode cL_law 307 = .ok (.if_icmp .eq 67, 3) := by decide +kernel
theorem dL_law_310 : decode cL_law 310 = .ok (.iconst 0, 1) := by decide +kernel
theorem dL_law_311 : decode cL_law 311 = .ok (.ireturn, 1) := by decide +kernel
theorem dL_law_312 : decode cL_law 312 = .ok (.aload_n 1, 1) := by decide +kernel
theorem dL_law_313 : decode cL_law 313 = .ok (.invokevirtual 43, 3) := by decide +kernel
theorem dL_law_316 : decode cL_law 316 = .ok (.aload_n 2, 1) := by decide +kernel
theorem dL_law_317 : decode cL_law 317 = .ok (.invokevirtual 47, 3) := by decide +kernel
theorem dL_law_320 : decode cL_law 320 = .ok (.if_icmp .eq 54, 3) := by decide +kernel
theorem dL_law_323 : decode cL_law 323 = .ok (.iconst 0, 1) := by decide +kernel
theorem dL_law_324 : decode cL_law 324 = .ok (.ireturn, 1) := by decide +kernel
theorem dL_law_325 : decode cL_law 325 = .ok (.aload_n 1, 1) := by decide +kernel
theorem dL_law_326 : decode cL_law 326 = .ok (.aload_n 0, 1) := by decide +kernel
theorem dL_law_327 : decode cL_law 327 = .ok (.iload_n 3, 1) := by decide +kernel
theorem dL_law_328 : decode cL_law 328 = .ok (.iconst 1, 1) := by decide +kernel
theorem dL_law_329 : decode cL_law 329 = .ok (.iadd, 1) := by decide +kernel
theorem dL_law_330 : decode cL_law 330 = .ok (.iaload, 1) := by decide +kernel
theorem dL_law_331 : decode cL_law 331 = .ok (.invokevirtual 48, 3) := by decide +kernel
theorem dL_law_334 : decode cL_law 334 = .ok (.aload_n 2, 1) := by decide +kernel
theorem dL_law_335 : decode cL_law 335 = .ok (.aload_n 0, 1) := by decide +kernel
theorem dL_law_336 : decode cL_law 336 = .ok (.iload_n 3, 1) := by decide +kernel
theorem dL_law_337 : decode cL_law 337 = .ok (.iconst 1, 1) := by decide +kernel
theorem dL_law_338 : decode cL_law 338 = .ok (.iadd, 1) := by decide +kernel
theorem dL_law_339 : decode cL_law 339 = .ok (.iaload, 1) := by decide +kernel
theorem dL_law_340 : decode cL_law 340 = .ok (.invokevirtual 51, 3) := by decide +kernel
theorem dL_law_343 : decode cL_law 343 = .ok (.if_icmp .eq 31, 3) := by decide +kernel
theorem dL_law_346 : decode cL_law 346 = .ok (.iconst 0, 1) := by decide +kernel
theorem dL_law_347 : decode cL_law 347 = .ok (.ireturn, 1) := by decide +kernel
theorem dL_law_348 : decode cL_law 348 = .ok (.aload_n 1, 1) := by decide +kernel
theorem dL_law_349 : decode cL_law 349 = .ok (.invokevirtual 52, 3) := by decide +kernel
theorem dL_law_352 : decode cL_law 352 = .ok (.aload_n 2, 1) := by decide +kernel
theorem dL_law_353 : decode cL_law 353 = .ok (.invokevirtual 55, 3) := by decide +kernel
theorem dL_law_356 : decode cL_law 356 = .ok (.if_icmp .eq 18, 3) := by decide +kernel
theorem dL_law_359 : decode cL_law 359 = .ok (.iconst 0, 1) := by decide +kernel
theorem dL_law_360 : decode cL_law 360 = .ok (.ireturn, 1) := by decide +kernel
theorem dL_law_361 : decode cL_law 361 = .ok (.aload_n 1, 1) := by decide +kernel
theorem dL_law_362 : decode cL_law 362 = .ok (.invokevirtual 56, 3) := by decide +kernel
theorem dL_law_365 : decode cL_law 365 = .ok (.aload_n 2, 1) := by decide +kernel
theorem dL_law_366 : decode cL_law 366 = .ok (.invokevirtual 59, 3) := by decide +kernel
theorem dL_law_369 : decode cL_law 369 = .ok (.if_icmp .eq 5, 3) := by decide +kernel
theorem dL_law_372 : decode cL_law 372 = .ok (.iconst 0, 1) := by decide +kernel
theorem dL_law_373 : decode cL_law 373 = .ok (.ireturn, 1) := by decide +kernel
theorem dL_law_374 : decode cL_law 374 = .ok (.iinc 3 4, 3) := by decide +kernel
theorem dL_law_377 : decode cL_law 377 = .ok (.goto (-359), 3) := by decide +kernel
theorem dL_law_380 : decode cL_law 380 = .ok (.iconst 1, 1) := by decide +kernel
theorem dL_law_381 : decode cL_law 381 = .ok (.ireturn, 1) := by decide +kernel
abbrev vwCl : List vw_C := [(RX0, TX0, 6), (RX1, TX1, 6)]
