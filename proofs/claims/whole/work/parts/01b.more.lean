/-! the reference's firstOf and due, which the printed names leave out: by a program of my own, out of the listing -/
abbrev cX1_firstOf : ByteArray := prog_3_method_21_code
def yX1_firstOf : MethodName := ⟨RX1, "firstOf", "(IIII)I"⟩
abbrev cX1_due : ByteArray := prog_3_method_22_code
def yX1_due : MethodName := ⟨RX1, "due", "()I"⟩
def wsX1_firstOf : List Cond := .code yX1_firstOf cX1_firstOf 4 (some .int) :: ([])
def wsX1_due : List Cond := .code yX1_due cX1_due 6 (some .int) :: ([.fieldLink RX1 7 "ControlFileModel" "kept" "[I", .fieldLink RX1 16 "ControlFileModel" "mode" "I", .methodLink RX1 68 yX1_tells, .instanceMethod yX1_tells, .selects RX1 yX1_tells yX1_tells, .initialized RX1, .code yX1_tells cX1_tells 2 (some .int), .fieldLink RX1 20 "ControlFileModel" "time" "J", .fieldLink RX1 26 "ControlFileModel" "alarm" "J", .fieldLink RX1 29 "ControlFileModel" "line" "Z", .methodLink RX1 75 yX1_firstOf, .static yX1_firstOf, .code yX1_firstOf cX1_firstOf 4 (some .int), .methodLink RX1 57 yX1_has, .instanceMethod yX1_has, .selects RX1 yX1_has yX1_has, .code yX1_has cX1_has 3 (some .boolean)] ++ wsX10)
set_option maxRecDepth 20000 in
theorem gX1_due_X1_tells : GoodIn wsX1_due (wsV RX1 68 RX1 yX1_tells wsX1_tells) := goodIn_p _ [7] rfl (by decide +kernel)
set_option maxRecDepth 20000 in
theorem gX1_due_X1_firstOf : GoodIn wsX1_due (va_wsS RX1 75 yX1_firstOf wsX1_firstOf) := goodIn_p _ [13] rfl (by decide +kernel)
set_option maxRecDepth 20000 in
theorem gX1_due_X1_has : GoodIn wsX1_due (wsV RX1 57 RX1 yX1_has wsX1_has) := goodIn_p _ [17] rfl (by decide +kernel)
set_option maxRecDepth 20000 in
theorem gL_law_X1_due : GoodIn lw_tbl (wsV RL 59 RX1 yX1_due wsX1_due) := goodIn_p _ [255, 223, 258, 219] (by decide +kernel) (by decide +kernel)
theorem dX1_firstOf_0 : decode cX1_firstOf 0 = .ok (.iload_n 0, 1) := by decide +kernel
theorem dX1_firstOf_1 : decode cX1_firstOf 1 = .ok (.iload_n 1, 1) := by decide +kernel
theorem dX1_firstOf_2 : decode cX1_firstOf 2 = .ok (.ishr, 1) := by decide +kernel
theorem dX1_firstOf_3 : decode cX1_firstOf 3 = .ok (.iconst 1, 1) := by decide +kernel
theorem dX1_firstOf_4 : decode cX1_firstOf 4 = .ok (.iand, 1) := by decide +kernel
theorem dX1_firstOf_5 : decode cX1_firstOf 5 = .ok (.iconst 1, 1) := by decide +kernel
theorem dX1_firstOf_6 : decode cX1_firstOf 6 = .ok (.if_icmp .ne 7, 3) := by decide +kernel
theorem dX1_firstOf_9 : decode cX1_firstOf 9 = .ok (.iload_n 1, 1) := by decide +kernel
theorem dX1_firstOf_10 : decode cX1_firstOf 10 = .ok (.goto 30, 3) := by decide +kernel
theorem dX1_firstOf_13 : decode cX1_firstOf 13 = .ok (.iload_n 0, 1) := by decide +kernel
theorem dX1_firstOf_14 : decode cX1_firstOf 14 = .ok (.iload_n 2, 1) := by decide +kernel
theorem dX1_firstOf_15 : decode cX1_firstOf 15 = .ok (.ishr, 1) := by decide +kernel
theorem dX1_firstOf_16 : decode cX1_firstOf 16 = .ok (.iconst 1, 1) := by decide +kernel
theorem dX1_firstOf_17 : decode cX1_firstOf 17 = .ok (.iand, 1) := by decide +kernel
theorem dX1_firstOf_18 : decode cX1_firstOf 18 = .ok (.iconst 1, 1) := by decide +kernel
theorem dX1_firstOf_19 : decode cX1_firstOf 19 = .ok (.if_icmp .ne 7, 3) := by decide +kernel
theorem dX1_firstOf_22 : decode cX1_firstOf 22 = .ok (.iload_n 2, 1) := by decide +kernel
theorem dX1_firstOf_23 : decode cX1_firstOf 23 = .ok (.goto 17, 3) := by decide +kernel
theorem dX1_firstOf_26 : decode cX1_firstOf 26 = .ok (.iload_n 0, 1) := by decide +kernel
theorem dX1_firstOf_27 : decode cX1_firstOf 27 = .ok (.iload_n 3, 1) := by decide +kernel
theorem dX1_firstOf_28 : decode cX1_firstOf 28 = .ok (.ishr, 1) := by decide +kernel
theorem dX1_firstOf_29 : decode cX1_firstOf 29 = .ok (.iconst 1, 1) := by decide +kernel
theorem dX1_firstOf_30 : decode cX1_firstOf 30 = .ok (.iand, 1) := by decide +kernel
theorem dX1_firstOf_31 : decode cX1_firstOf 31 = .ok (.iconst 1, 1) := by decide +kernel
theorem dX1_firstOf_32 : decode cX1_firstOf 32 = .ok (.if_icmp .ne 7, 3) := by decide +kernel
theorem dX1_firstOf_35 : decode cX1_firstOf 35 = .ok (.iload_n 3, 1) := by decide +kernel
theorem dX1_firstOf_36 : decode cX1_firstOf 36 = .ok (.goto 4, 3) := by decide +kernel
theorem dX1_firstOf_39 : decode cX1_firstOf 39 = .ok (.iconst (-1), 1) := by decide +kernel
theorem dX1_firstOf_40 : decode cX1_firstOf 40 = .ok (.ireturn, 1) := by decide +kernel
theorem dX1_due_0 : decode cX1_due 0 = .ok (.aload_n 0, 1) := by decide +kernel
theorem dX1_due_1 : decode cX1_due 1 = .ok (.bipush 7, 2) := by decide +kernel
theorem dX1_due_3 : decode cX1_due 3 = .ok (.invokevirtual 68, 3) := by decide +kernel
theorem dX1_due_6 : decode cX1_due 6 = .ok (.aload_n 0, 1) := by decide +kernel
theorem dX1_due_7 : decode cX1_due 7 = .ok (.getfield 7, 3) := by decide +kernel
theorem dX1_due_10 : decode cX1_due 10 = .ok (.iconst 1, 1) := by decide +kernel
theorem dX1_due_11 : decode cX1_due 11 = .ok (.iaload, 1) := by decide +kernel
theorem dX1_due_12 : decode cX1_due 12 = .ok (.iand, 1) := by decide +kernel
theorem dX1_due_13 : decode cX1_due 13 = .ok (.bipush 9, 2) := by decide +kernel
theorem dX1_due_15 : decode cX1_due 15 = .ok (.iconst 1, 1) := by decide +kernel
theorem dX1_due_16 : decode cX1_due 16 = .ok (.iconst 5, 1) := by decide +kernel
theorem dX1_due_17 : decode cX1_due 17 = .ok (.invokestatic 75, 3) := by decide +kernel
theorem dX1_due_20 : decode cX1_due 20 = .ok (.istore_n 1, 1) := by decide +kernel
theorem dX1_due_21 : decode cX1_due 21 = .ok (.aload_n 0, 1) := by decide +kernel
theorem dX1_due_22 : decode cX1_due 22 = .ok (.getfield 7, 3) := by decide +kernel
theorem dX1_due_25 : decode cX1_due 25 = .ok (.bipush 24, 2) := by decide +kernel
theorem dX1_due_27 : decode cX1_due 27 = .ok (.iaload, 1) := by decide +kernel
theorem dX1_due_28 : decode cX1_due 28 = .ok (.aload_n 0, 1) := by decide +kernel
theorem dX1_due_29 : decode cX1_due 29 = .ok (.getfield 7, 3) := by decide +kernel
theorem dX1_due_32 : decode cX1_due 32 = .ok (.bipush 21, 2) := by decide +kernel
theorem dX1_due_34 : decode cX1_due 34 = .ok (.iaload, 1) := by decide +kernel
theorem dX1_due_35 : decode cX1_due 35 = .ok (.iand, 1) := by decide +kernel
theorem dX1_due_36 : decode cX1_due 36 = .ok (.aload_n 0, 1) := by decide +kernel
theorem dX1_due_37 : decode cX1_due 37 = .ok (.getfield 7, 3) := by decide +kernel
theorem dX1_due_40 : decode cX1_due 40 = .ok (.bipush 20, 2) := by decide +kernel
theorem dX1_due_42 : decode cX1_due 42 = .ok (.iaload, 1) := by decide +kernel
theorem dX1_due_43 : decode cX1_due 43 = .ok (.iconst (-1), 1) := by decide +kernel
theorem dX1_due_44 : decode cX1_due 44 = .ok (.ixor, 1) := by decide +kernel
theorem dX1_due_45 : decode cX1_due 45 = .ok (.iand, 1) := by decide +kernel
theorem dX1_due_46 : decode cX1_due 46 = .ok (.bipush 10, 2) := by decide +kernel
theorem dX1_due_48 : decode cX1_due 48 = .ok (.iconst 2, 1) := by decide +kernel
theorem dX1_due_49 : decode cX1_due 49 = .ok (.bipush 6, 2) := by decide +kernel
theorem dX1_due_51 : decode cX1_due 51 = .ok (.invokestatic 75, 3) := by decide +kernel
theorem dX1_due_54 : decode cX1_due 54 = .ok (.istore_n 2, 1) := by decide +kernel
theorem dX1_due_55 : decode cX1_due 55 = .ok (.aload_n 0, 1) := by decide +kernel
theorem dX1_due_56 : decode cX1_due 56 = .ok (.getfield 16, 3) := by decide +kernel
theorem dX1_due_59 : decode cX1_due 59 = .ok (.iconst 1, 1) := by decide +kernel
theorem dX1_due_60 : decode cX1_due 60 = .ok (.if_icmp .ne 12, 3) := by decide +kernel
theorem dX1_due_63 : decode cX1_due 63 = .ok (.aload_n 0, 1) := by decide +kernel
theorem dX1_due_64 : decode cX1_due 64 = .ok (.iconst 0, 1) := by decide +kernel
theorem dX1_due_65 : decode cX1_due 65 = .ok (.iconst 1, 1) := by decide +kernel
theorem dX1_due_66 : decode cX1_due 66 = .ok (.invokevirtual 57, 3) := by decide +kernel
theorem dX1_due_69 : decode cX1_due 69 = .ok (.ifCond .eq 7, 3) := by decide +kernel
theorem dX1_due_72 : decode cX1_due 72 = .ok (.iconst 1, 1) := by decide +kernel
theorem dX1_due_73 : decode cX1_due 73 = .ok (.goto 4, 3) := by decide +kernel
theorem dX1_due_76 : decode cX1_due 76 = .ok (.iconst 0, 1) := by decide +kernel
theorem dX1_due_77 : decode cX1_due 77 = .ok (.istore_n 3, 1) := by decide +kernel
theorem dX1_due_78 : decode cX1_due 78 = .ok (.iload_n 3, 1) := by decide +kernel
theorem dX1_due_79 : decode cX1_due 79 = .ok (.ifCond .eq 24, 3) := by decide +kernel
theorem dX1_due_82 : decode cX1_due 82 = .ok (.iload_n 1, 1) := by decide +kernel
theorem dX1_due_83 : decode cX1_due 83 = .ok (.iconst (-1), 1) := by decide +kernel
theorem dX1_due_84 : decode cX1_due 84 = .ok (.if_icmp .ne 8, 3) := by decide +kernel
theorem dX1_due_87 : decode cX1_due 87 = .ok (.iload_n 2, 1) := by decide +kernel
theorem dX1_due_88 : decode cX1_due 88 = .ok (.iconst (-1), 1) := by decide +kernel
theorem dX1_due_89 : decode cX1_due 89 = .ok (.if_icmp .eq 14, 3) := by decide +kernel
theorem dX1_due_92 : decode cX1_due 92 = .ok (.iload_n 1, 1) := by decide +kernel
theorem dX1_due_93 : decode cX1_due 93 = .ok (.iconst (-1), 1) := by decide +kernel
theorem dX1_due_94 : decode cX1_due 94 = .ok (.if_icmp .eq 7, 3) := by decide +kernel
theorem dX1_due_97 : decode cX1_due 97 = .ok (.iload_n 1, 1) := by decide +kernel
theorem dX1_due_98 : decode cX1_due 98 = .ok (.goto 4, 3) := by decide +kernel
theorem dX1_due_101 : decode cX1_due 101 = .ok (.iload_n 2, 1) := by decide +kernel
theorem dX1_due_102 : decode cX1_due 102 = .ok (.ireturn, 1) := by decide +kernel
theorem dX1_due_103 : decode cX1_due 103 = .ok (.aload_n 0, 1) := by decide +kernel
theorem dX1_due_104 : decode cX1_due 104 = .ok (.getfield 7, 3) := by decide +kernel
theorem dX1_due_107 : decode cX1_due 107 = .ok (.bipush 24, 2) := by decide +kernel
theorem dX1_due_109 : decode cX1_due 109 = .ok (.iaload, 1) := by decide +kernel
theorem dX1_due_110 : decode cX1_due 110 = .ok (.aload_n 0, 1) := by decide +kernel
theorem dX1_due_111 : decode cX1_due 111 = .ok (.getfield 7, 3) := by decide +kernel
theorem dX1_due_114 : decode cX1_due 114 = .ok (.bipush 21, 2) := by decide +kernel
theorem dX1_due_116 : decode cX1_due 116 = .ok (.iaload, 1) := by decide +kernel
theorem dX1_due_117 : decode cX1_due 117 = .ok (.iand, 1) := by decide +kernel
theorem dX1_due_118 : decode cX1_due 118 = .ok (.aload_n 0, 1) := by decide +kernel
theorem dX1_due_119 : decode cX1_due 119 = .ok (.getfield 7, 3) := by decide +kernel
theorem dX1_due_122 : decode cX1_due 122 = .ok (.bipush 20, 2) := by decide +kernel
theorem dX1_due_124 : decode cX1_due 124 = .ok (.iaload, 1) := by decide +kernel
theorem dX1_due_125 : decode cX1_due 125 = .ok (.iand, 1) := by decide +kernel
theorem dX1_due_126 : decode cX1_due 126 = .ok (.bipush 10, 2) := by decide +kernel
theorem dX1_due_128 : decode cX1_due 128 = .ok (.iconst 2, 1) := by decide +kernel
theorem dX1_due_129 : decode cX1_due 129 = .ok (.bipush 6, 2) := by decide +kernel
theorem dX1_due_131 : decode cX1_due 131 = .ok (.invokestatic 75, 3) := by decide +kernel
theorem dX1_due_134 : decode cX1_due 134 = .ok (.istore 4, 2) := by decide +kernel
theorem dX1_due_136 : decode cX1_due 136 = .ok (.aload_n 0, 1) := by decide +kernel
theorem dX1_due_137 : decode cX1_due 137 = .ok (.getfield 16, 3) := by decide +kernel
theorem dX1_due_140 : decode cX1_due 140 = .ok (.iconst 2, 1) := by decide +kernel
theorem dX1_due_141 : decode cX1_due 141 = .ok (.if_icmp .eq 21, 3) := by decide +kernel
theorem dX1_due_144 : decode cX1_due 144 = .ok (.aload_n 0, 1) := by decide +kernel
theorem dX1_due_145 : decode cX1_due 145 = .ok (.getfield 16, 3) := by decide +kernel
theorem dX1_due_148 : decode cX1_due 148 = .ok (.iconst 3, 1) := by decide +kernel
theorem dX1_due_149 : decode cX1_due 149 = .ok (.if_icmp .ne 17, 3) := by decide +kernel
theorem dX1_due_152 : decode cX1_due 152 = .ok (.aload_n 0, 1) := by decide +kernel
theorem dX1_due_153 : decode cX1_due 153 = .ok (.bipush 9, 2) := by decide +kernel
theorem dX1_due_155 : decode cX1_due 155 = .ok (.iconst 1, 1) := by decide +kernel
theorem dX1_due_156 : decode cX1_due 156 = .ok (.invokevirtual 57, 3) := by decide +kernel
theorem dX1_due_159 : decode cX1_due 159 = .ok (.ifCond .eq 7, 3) := by decide +kernel
theorem dX1_due_162 : decode cX1_due 162 = .ok (.iconst 1, 1) := by decide +kernel
theorem dX1_due_163 : decode cX1_due 163 = .ok (.goto 4, 3) := by decide +kernel
theorem dX1_due_166 : decode cX1_due 166 = .ok (.iconst 0, 1) := by decide +kernel
theorem dX1_due_167 : decode cX1_due 167 = .ok (.istore 5, 2) := by decide +kernel
theorem dX1_due_169 : decode cX1_due 169 = .ok (.iload 5, 2) := by decide +kernel
theorem dX1_due_171 : decode cX1_due 171 = .ok (.ifCond .eq 19, 3) := by decide +kernel
theorem dX1_due_174 : decode cX1_due 174 = .ok (.iload 4, 2) := by decide +kernel
theorem dX1_due_176 : decode cX1_due 176 = .ok (.iconst (-1), 1) := by decide +kernel
theorem dX1_due_177 : decode cX1_due 177 = .ok (.if_icmp .eq 13, 3) := by decide +kernel
theorem dX1_due_180 : decode cX1_due 180 = .ok (.bipush 100, 2) := by decide +kernel
theorem dX1_due_182 : decode cX1_due 182 = .ok (.iload 4, 2) := by decide +kernel
theorem dX1_due_184 : decode cX1_due 184 = .ok (.iadd, 1) := by decide +kernel
theorem dX1_due_185 : decode cX1_due 185 = .ok (.iconst 1, 1) := by decide +kernel
theorem dX1_due_186 : decode cX1_due 186 = .ok (.isub, 1) := by decide +kernel
theorem dX1_due_187 : decode cX1_due 187 = .ok (.goto 4, 3) := by decide +kernel
theorem dX1_due_190 : decode cX1_due 190 = .ok (.iconst (-1), 1) := by decide +kernel
theorem dX1_due_191 : decode cX1_due 191 = .ok (.ireturn, 1) := by decide +kernel
