set_option maxHeartbeats 4000000 in
set_option maxRecDepth 100000 in
theorem m_kindOf (l : Launch) (D : va_G) (z : Nat → Nat) (x : Int32) : Met l yX1_kindOf wsX1_kindOf ({ frames := 0, cells := 0, slots := 0, locals := 0 } : Room) (cf_ro [.int x] D [] [] z) (vp_Si (fun r => r = mf_kind x)) 0 0 (fun _ => False) := by
  refine Met.ofW (cc := cX1_kindOf) (maxL := 1) (ret := (some .int)) (by decide) rfl ?_
  intro p e s m args below meth c s₁ B hml hv
  obtain ⟨rfl, hP, hK, hZ⟩ := hv
  have hx := B.exec
  have hb := B.bytes
  have hr := B.returns
  have hts := atoms_spec (ws := wsX1_kindOf) B.pre
  have hown : s.vm.findClass RX1 = some m.cls := findClass_of_methodNamed B.named
  have hlocks := B.notSynchronized
  have hS : va_S (fun _ => False) s.heap s.heap [] := va_S.rf
  have hl := lv_entry ([.int x]) (n := 1) (Nat.le_of_ble_eq_true rfl)
  rw [lg_entry_eq]
  generalize (lg_sl ([.int x]) ++ List.replicate (1 - (lg_sl ([.int x])).length) Slot.unset).toArray = ls at hl ⊢
  have hl : lv_has ls 1 [(0, .int x)] := hl
  refine lv_iload_n hx hb dX1_kindOf_0 rfl (lv_at hl 0 rfl) ?_
  by_cases c_1 : x = 0
  · skip
    refine lv_lookup (off := 83) (tgt := 84) hx hb dX1_kindOf_1 (by decide) (by rw [c_1]; decide) (by decide) ?_
    refine lv_iconst (v := 0) hx hb dX1_kindOf_84 (by decide) ?_
    exact cf_roEnd hx hb hr hlocks (by simp only [mf_kind, if_pos c_1, if_neg cf_n10, if_pos cf_p00, ↓reduceIte]) dX1_kindOf_85
  by_cases c_2 : x = 4
  · skip
    refine lv_lookup (off := 85) (tgt := 86) hx hb dX1_kindOf_1 (by decide) (by rw [c_2]; decide) (by decide) ?_
    refine lv_iconst (v := 1) hx hb dX1_kindOf_86 (by decide) ?_
    exact cf_roEnd hx hb hr hlocks (by simp only [mf_kind, if_neg c_1, if_pos c_2, if_neg cf_n10, if_pos cf_p00, ↓reduceIte]) dX1_kindOf_87
  by_cases c_3 : x = 5
  · skip
    refine lv_lookup (off := 87) (tgt := 88) hx hb dX1_kindOf_1 (by decide) (by rw [c_3]; decide) (by decide) ?_
    refine lv_iconst (v := 2) hx hb dX1_kindOf_88 (by decide) ?_
    exact cf_roEnd hx hb hr hlocks (by simp only [mf_kind, if_neg c_1, if_neg c_2, if_pos c_3, if_neg cf_n10, if_pos cf_p00, ↓reduceIte]) dX1_kindOf_89
  by_cases c_4 : x = 64
  · skip
    refine lv_lookup (off := 89) (tgt := 90) hx hb dX1_kindOf_1 (by decide) (by rw [c_4]; decide) (by decide) ?_
    refine lv_iload_n hx hb dX1_kindOf_90 rfl (lv_at hl 0 rfl) ?_
    refine lv_bipush (v := 64) hx hb dX1_kindOf_91 (by decide) ?_
    refine lv_isub hx hb dX1_kindOf_93 ?_
    refine lv_iconst (v := 3) hx hb dX1_kindOf_94 (by decide) ?_
    refine lv_iadd hx hb dX1_kindOf_95 ?_
    exact cf_roEnd hx hb hr hlocks (by simp only [mf_kind, if_neg c_1, if_neg c_2, if_neg c_3, if_pos c_4, if_neg cf_n10, if_pos cf_p00, ↓reduceIte]) dX1_kindOf_96
  by_cases c_5 : x = 65
  · skip
    refine lv_lookup (off := 89) (tgt := 90) hx hb dX1_kindOf_1 (by decide) (by rw [c_5]; decide) (by decide) ?_
    refine lv_iload_n hx hb dX1_kindOf_90 rfl (lv_at hl 0 rfl) ?_
    refine lv_bipush (v := 64) hx hb dX1_kindOf_91 (by decide) ?_
    refine lv_isub hx hb dX1_kindOf_93 ?_
    refine lv_iconst (v := 3) hx hb dX1_kindOf_94 (by decide) ?_
    refine lv_iadd hx hb dX1_kindOf_95 ?_
    exact cf_roEnd hx hb hr hlocks (by simp only [mf_kind, if_neg c_1, if_neg c_2, if_neg c_3, if_neg c_4, if_pos c_5, if_neg cf_n10, if_pos cf_p00, ↓reduceIte]) dX1_kindOf_96
  by_cases c_6 : x = 66
  · skip
    refine lv_lookup (off := 89) (tgt := 90) hx hb dX1_kindOf_1 (by decide) (by rw [c_6]; decide) (by decide) ?_
    refine lv_iload_n hx hb dX1_kindOf_90 rfl (lv_at hl 0 rfl) ?_
    refine lv_bipush (v := 64) hx hb dX1_kindOf_91 (by decide) ?_
    refine lv_isub hx hb dX1_kindOf_93 ?_
    refine lv_iconst (v := 3) hx hb dX1_kindOf_94 (by decide) ?_
    refine lv_iadd hx hb dX1_kindOf_95 ?_
    exact cf_roEnd hx hb hr hlocks (by simp only [mf_kind, if_neg c_1, if_neg c_2, if_neg c_3, if_neg c_4, if_neg c_5, if_pos c_6, if_neg cf_n10, if_pos cf_p00, ↓reduceIte]) dX1_kindOf_96
  by_cases c_7 : x = 67
  · skip
    refine lv_lookup (off := 89) (tgt := 90) hx hb dX1_kindOf_1 (by decide) (by rw [c_7]; decide) (by decide) ?_
    refine lv_iload_n hx hb dX1_kindOf_90 rfl (lv_at hl 0 rfl) ?_
    refine lv_bipush (v := 64) hx hb dX1_kindOf_91 (by decide) ?_
    refine lv_isub hx hb dX1_kindOf_93 ?_
    refine lv_iconst (v := 3) hx hb dX1_kindOf_94 (by decide) ?_
    refine lv_iadd hx hb dX1_kindOf_95 ?_
    exact cf_roEnd hx hb hr hlocks (by simp only [mf_kind, if_neg c_1, if_neg c_2, if_neg c_3, if_neg c_4, if_neg c_5, if_neg c_6, if_pos c_7, if_neg cf_n10, if_pos cf_p00, ↓reduceIte]) dX1_kindOf_96
  by_cases c_8 : x = 68
  · skip
    refine lv_lookup (off := 89) (tgt := 90) hx hb dX1_kindOf_1 (by decide) (by rw [c_8]; decide) (by decide) ?_
    refine lv_iload_n hx hb dX1_kindOf_90 rfl (lv_at hl 0 rfl) ?_
    refine lv_bipush (v := 64) hx hb dX1_kindOf_91 (by decide) ?_
    refine lv_isub hx hb dX1_kindOf_93 ?_
    refine lv_iconst (v := 3) hx hb dX1_kindOf_94 (by decide) ?_
    refine lv_iadd hx hb dX1_kindOf_95 ?_
    exact cf_roEnd hx hb hr hlocks (by simp only [mf_kind, if_neg c_1, if_neg c_2, if_neg c_3, if_neg c_4, if_neg c_5, if_neg c_6, if_neg c_7, if_pos c_8, if_neg cf_n10, if_pos cf_p00, ↓reduceIte]) dX1_kindOf_96
  by_cases c_9 : x = 128
  · skip
    refine lv_lookup (off := 96) (tgt := 97) hx hb dX1_kindOf_1 (by decide) (by rw [c_9]; decide) (by decide) ?_
    refine lv_bipush (v := 8) hx hb dX1_kindOf_97 (by decide) ?_
    exact cf_roEnd hx hb hr hlocks (by simp only [mf_kind, if_neg c_1, if_neg c_2, if_neg c_3, if_neg c_4, if_neg c_5, if_neg c_6, if_neg c_7, if_neg c_8, if_pos c_9, if_neg cf_n10, if_pos cf_p00, ↓reduceIte]) dX1_kindOf_99
  refine lv_lookup (off := 99) (tgt := 100) hx hb dX1_kindOf_1 (by decide) (show Op.lookupswitch.offset [(0, 83), (4, 85), (5, 87), (64, 89), (65, 89), (66, 89), (67, 89), (68, 89), (128, 96)] 99 (x).toInt = 99 by rw [Op.lookupswitch.offset_cons, if_neg (cf_ne (a := 0) (by decide) c_1), Op.lookupswitch.offset_cons, if_neg (cf_ne (a := 4) (by decide) c_2), Op.lookupswitch.offset_cons, if_neg (cf_ne (a := 5) (by decide) c_3), Op.lookupswitch.offset_cons, if_neg (cf_ne (a := 64) (by decide) c_4), Op.lookupswitch.offset_cons, if_neg (cf_ne (a := 65) (by decide) c_5), Op.lookupswitch.offset_cons, if_neg (cf_ne (a := 66) (by decide) c_6), Op.lookupswitch.offset_cons, if_neg (cf_ne (a := 67) (by decide) c_7), Op.lookupswitch.offset_cons, if_neg (cf_ne (a := 68) (by decide) c_8), Op.lookupswitch.offset_cons, if_neg (cf_ne (a := 128) (by decide) c_9), Op.lookupswitch.offset_nil]) (by decide) ?_
  refine lv_iconst (v := -1) hx hb dX1_kindOf_100 (by decide) ?_
  exact cf_roEnd hx hb hr hlocks (by simp only [mf_kind, if_neg c_1, if_neg c_2, if_neg c_3, if_neg c_4, if_neg c_5, if_neg c_6, if_neg c_7, if_neg c_8, if_neg c_9, if_neg cf_n10, if_pos cf_p00, ↓reduceIte]) dX1_kindOf_101
set_option maxHeartbeats 4000000 in
set_option maxRecDepth 100000 in
theorem m_hyperOf (l : Launch) (D : va_G) (z : Nat → Nat) (x : Int32) : Met l yX1_hyperOf wsX1_hyperOf ({ frames := 0, cells := 0, slots := 0, locals := 0 } : Room) (cf_ro [.int x] D [] [] z) (vp_Si (fun r => r = mf_hyp x)) 0 0 (fun _ => False) := by
  refine Met.ofW (cc := cX1_hyperOf) (maxL := 1) (ret := (some .int)) (by decide) rfl ?_
  intro p e s m args below meth c s₁ B hml hv
  obtain ⟨rfl, hP, hK, hZ⟩ := hv
  have hx := B.exec
  have hb := B.bytes
  have hr := B.returns
  have hts := atoms_spec (ws := wsX1_hyperOf) B.pre
  have hown : s.vm.findClass RX1 = some m.cls := findClass_of_methodNamed B.named
  have hlocks := B.notSynchronized
  have hS : va_S (fun _ => False) s.heap s.heap [] := va_S.rf
  have hl := lv_entry ([.int x]) (n := 1) (Nat.le_of_ble_eq_true rfl)
  rw [lg_entry_eq]
  generalize (lg_sl ([.int x]) ++ List.replicate (1 - (lg_sl ([.int x])).length) Slot.unset).toArray = ls at hl ⊢
  have hl : lv_has ls 1 [(0, .int x)] := hl
  refine lv_iload_n hx hb dX1_hyperOf_0 rfl (lv_at hl 0 rfl) ?_
  by_cases c_1 : x = 1536
  · skip
    refine lv_lookup (off := 99) (tgt := 100) hx hb dX1_hyperOf_1 (by decide) (by rw [c_1]; decide) (by decide) ?_
    refine lv_bipush (v := 18) hx hb dX1_hyperOf_100 (by decide) ?_
    exact cf_roEnd hx hb hr hlocks (by simp only [mf_hyp, if_pos c_1, if_neg cf_n10, if_pos cf_p00, ↓reduceIte]) dX1_hyperOf_102
  by_cases c_2 : x = 1538
  · skip
    refine lv_lookup (off := 102) (tgt := 103) hx hb dX1_hyperOf_1 (by decide) (by rw [c_2]; decide) (by decide) ?_
    refine lv_bipush (v := 19) hx hb dX1_hyperOf_103 (by decide) ?_
    exact cf_roEnd hx hb hr hlocks (by simp only [mf_hyp, if_neg c_1, if_pos c_2, if_neg cf_n10, if_pos cf_p00, ↓reduceIte]) dX1_hyperOf_105
  by_cases c_3 : x = 1539
  · skip
    refine lv_lookup (off := 105) (tgt := 106) hx hb dX1_hyperOf_1 (by decide) (by rw [c_3]; decide) (by decide) ?_
    refine lv_bipush (v := 20) hx hb dX1_hyperOf_106 (by decide) ?_
    exact cf_roEnd hx hb hr hlocks (by simp only [mf_hyp, if_neg c_1, if_neg c_2, if_pos c_3, if_neg cf_n10, if_pos cf_p00, ↓reduceIte]) dX1_hyperOf_108
  by_cases c_4 : x = 1540
  · skip
    refine lv_lookup (off := 108) (tgt := 109) hx hb dX1_hyperOf_1 (by decide) (by rw [c_4]; decide) (by decide) ?_
    refine lv_bipush (v := 21) hx hb dX1_hyperOf_109 (by decide) ?_
    exact cf_roEnd hx hb hr hlocks (by simp only [mf_hyp, if_neg c_1, if_neg c_2, if_neg c_3, if_pos c_4, if_neg cf_n10, if_pos cf_p00, ↓reduceIte]) dX1_hyperOf_111
  by_cases c_5 : x = 1603
  · skip
    refine lv_lookup (off := 111) (tgt := 112) hx hb dX1_hyperOf_1 (by decide) (by rw [c_5]; decide) (by decide) ?_
    refine lv_bipush (v := 22) hx hb dX1_hyperOf_112 (by decide) ?_
    exact cf_roEnd hx hb hr hlocks (by simp only [mf_hyp, if_neg c_1, if_neg c_2, if_neg c_3, if_neg c_4, if_pos c_5, if_neg cf_n10, if_pos cf_p00, ↓reduceIte]) dX1_hyperOf_114
  by_cases c_6 : x = 1604
  · skip
    refine lv_lookup (off := 114) (tgt := 115) hx hb dX1_hyperOf_1 (by decide) (by rw [c_6]; decide) (by decide) ?_
    refine lv_bipush (v := 23) hx hb dX1_hyperOf_115 (by decide) ?_
    exact cf_roEnd hx hb hr hlocks (by simp only [mf_hyp, if_neg c_1, if_neg c_2, if_neg c_3, if_neg c_4, if_neg c_5, if_pos c_6, if_neg cf_n10, if_pos cf_p00, ↓reduceIte]) dX1_hyperOf_117
  by_cases c_7 : x = 1605
  · skip
    refine lv_lookup (off := 117) (tgt := 118) hx hb dX1_hyperOf_1 (by decide) (by rw [c_7]; decide) (by decide) ?_
    refine lv_bipush (v := 24) hx hb dX1_hyperOf_118 (by decide) ?_
    exact cf_roEnd hx hb hr hlocks (by simp only [mf_hyp, if_neg c_1, if_neg c_2, if_neg c_3, if_neg c_4, if_neg c_5, if_neg c_6, if_pos c_7, if_neg cf_n10, if_pos cf_p00, ↓reduceIte]) dX1_hyperOf_120
  by_cases c_8 : x = 1610
  · skip
    refine lv_lookup (off := 120) (tgt := 121) hx hb dX1_hyperOf_1 (by decide) (by rw [c_8]; decide) (by decide) ?_
    refine lv_bipush (v := 25) hx hb dX1_hyperOf_121 (by decide) ?_
    exact cf_roEnd hx hb hr hlocks (by simp only [mf_hyp, if_neg c_1, if_neg c_2, if_neg c_3, if_neg c_4, if_neg c_5, if_neg c_6, if_neg c_7, if_pos c_8, if_neg cf_n10, if_pos cf_p00, ↓reduceIte]) dX1_hyperOf_123
  by_cases c_9 : x = 1664
  · skip
    refine lv_lookup (off := 123) (tgt := 124) hx hb dX1_hyperOf_1 (by decide) (by rw [c_9]; decide) (by decide) ?_
    refine lv_bipush (v := 26) hx hb dX1_hyperOf_124 (by decide) ?_
    exact cf_roEnd hx hb hr hlocks (by simp only [mf_hyp, if_neg c_1, if_neg c_2, if_neg c_3, if_neg c_4, if_neg c_5, if_neg c_6, if_neg c_7, if_neg c_8, if_pos c_9, if_neg cf_n10, if_pos cf_p00, ↓reduceIte]) dX1_hyperOf_126
  by_cases c_10 : x = 3073
  · skip
    refine lv_lookup (off := 126) (tgt := 127) hx hb dX1_hyperOf_1 (by decide) (by rw [c_10]; decide) (by decide) ?_
    refine lv_bipush (v := 27) hx hb dX1_hyperOf_127 (by decide) ?_
    exact cf_roEnd hx hb hr hlocks (by simp only [mf_hyp, if_neg c_1, if_neg c_2, if_neg c_3, if_neg c_4, if_neg c_5, if_neg c_6, if_neg c_7, if_neg c_8, if_neg c_9, if_pos c_10, if_neg cf_n10, if_pos cf_p00, ↓reduceIte]) dX1_hyperOf_129
  by_cases c_11 : x = 3201
  · skip
    refine lv_lookup (off := 129) (tgt := 130) hx hb dX1_hyperOf_1 (by decide) (by rw [c_11]; decide) (by decide) ?_
    refine lv_bipush (v := 28) hx hb dX1_hyperOf_130 (by decide) ?_
    exact cf_roEnd hx hb hr hlocks (by simp only [mf_hyp, if_neg c_1, if_neg c_2, if_neg c_3, if_neg c_4, if_neg c_5, if_neg c_6, if_neg c_7, if_neg c_8, if_neg c_9, if_neg c_10, if_pos c_11, if_neg cf_n10, if_pos cf_p00, ↓reduceIte]) dX1_hyperOf_132
  refine lv_lookup (off := 132) (tgt := 133) hx hb dX1_hyperOf_1 (by decide) (show Op.lookupswitch.offset [(1536, 99), (1538, 102), (1539, 105), (1540, 108), (1603, 111), (1604, 114), (1605, 117), (1610, 120), (1664, 123), (3073, 126), (3201, 129)] 132 (x).toInt = 132 by rw [Op.lookupswitch.offset_cons, if_neg (cf_ne (a := 1536) (by decide) c_1), Op.lookupswitch.offset_cons, if_neg (cf_ne (a := 1538) (by decide) c_2), Op.lookupswitch.offset_cons, if_neg (cf_ne (a := 1539) (by decide) c_3), Op.lookupswitch.offset_cons, if_neg (cf_ne (a := 1540) (by decide) c_4), Op.lookupswitch.offset_cons, if_neg (cf_ne (a := 1603) (by decide) c_5), Op.lookupswitch.offset_cons, if_neg (cf_ne (a := 1604) (by decide) c_6), Op.lookupswitch.offset_cons, if_neg (cf_ne (a := 1605) (by decide) c_7), Op.lookupswitch.offset_cons, if_neg (cf_ne (a := 1610) (by decide) c_8), Op.lookupswitch.offset_cons, if_neg (cf_ne (a := 1664) (by decide) c_9), Op.lookupswitch.offset_cons, if_neg (cf_ne (a := 3073) (by decide) c_10), Op.lookupswitch.offset_cons, if_neg (cf_ne (a := 3201) (by decide) c_11), Op.lookupswitch.offset_nil]) (by decide) ?_
  refine lv_iconst (v := -1) hx hb dX1_hyperOf_133 (by decide) ?_
  exact cf_roEnd hx hb hr hlocks (by simp only [mf_hyp, if_neg c_1, if_neg c_2, if_neg c_3, if_neg c_4, if_neg c_5, if_neg c_6, if_neg c_7, if_neg c_8, if_neg c_9, if_neg c_10, if_neg c_11, if_neg cf_n10, if_pos cf_p00, ↓reduceIte]) dX1_hyperOf_134
set_option maxHeartbeats 4000000 in
set_option maxRecDepth 100000 in
theorem m_placeOf (l : Launch) (D : va_G) (z : Nat → Nat) (n : Int32) : Met l yX1_placeOf wsX1_placeOf ({ frames := 1, cells := 0, slots := 0, locals := 20 } : Room) (cf_ro [.int n] D [] [] z) (vp_Si (fun r => r = mf_place n)) 0 0 (fun _ => False) := by
  refine Met.ofW (cc := cX1_placeOf) (maxL := 3) (ret := (some .int)) (by decide) rfl ?_
  intro p e s m args below meth c s₁ B hml hv
  obtain ⟨rfl, hP, hK, hZ⟩ := hv
  have hx := B.exec
  have hb := B.bytes
  have hr := B.returns
  have hts := atoms_spec (ws := wsX1_placeOf) B.pre
  have hown : s.vm.findClass RX1 = some m.cls := findClass_of_methodNamed B.named
  have hlocks := B.notSynchronized
  have hS : va_S (fun _ => False) s.heap s.heap [] := va_S.rf
  have hl := lv_entry ([.int n]) (n := 3) (Nat.le_of_ble_eq_true rfl)
  rw [lg_entry_eq]
  generalize (lg_sl ([.int n]) ++ List.replicate (3 - (lg_sl ([.int n])).length) Slot.unset).toArray = ls at hl ⊢
  have hl : lv_has ls 3 [(0, .int n)] := hl
  refine lv_iload_n hx hb dX1_placeOf_0 rfl (lv_at hl 0 rfl) ?_
  refine lv_bipush (v := 8) hx hb dX1_placeOf_1 (by decide) ?_
  refine lv_ishr hx hb dX1_placeOf_3 ?_
  refine lv_istore_n (lv' := [(1, .int (n >>> ((8 : Int32) &&& 31))), (0, .int n)]) hx hb dX1_placeOf_4 rfl hl (by decide) rfl (fun ls hl => ?_)
  refine lv_iload_n hx hb dX1_placeOf_5 rfl (lv_at hl 0 rfl) ?_
  refine lv_iconst (v := 1) hx hb dX1_placeOf_6 (by decide) ?_
  refine lv_icmp_eq (tgt := 20) hx hb dX1_placeOf_7 (by decide) (fun c_1 => ?_) (fun c_1 => ?_)
  · skip
    refine lv_iload_n hx hb dX1_placeOf_20 rfl (lv_at hl 1 rfl) ?_
    refine lv_sipush (v := 255) hx hb dX1_placeOf_21 (by decide) ?_
    refine lv_iand hx hb dX1_placeOf_24 ?_
    refine cf_callS (As := [.int (n &&& 255)]) (rest := []) ⟨hx, hb, hml, hown, hts⟩ (m_kindOf l D z (n &&& 255)) (va_cwS 1 hts gX1_placeOf_X1_kindOf rfl rfl rfl (by decide +kernel) ⟨Nat.le_of_ble_eq_true rfl, Nat.le_of_ble_eq_true rfl⟩) (hP.sub (ws' := []) [] rfl) (hK.sub (tys' := []) [] rfl) hZ hS rfl hl.1 rfl (Nat.le_of_ble_eq_true rfl) dX1_placeOf_25 ⟨Nat.zero_le _, Nat.zero_le _⟩ ?_
    refine lv_istore_n (lv' := [(2, .int (mf_kind (n &&& 255))), (1, .int (n >>> ((8 : Int32) &&& 31))), (0, .int n)]) hx hb dX1_placeOf_28 rfl hl (by decide) rfl (fun ls hl => ?_)
    refine lv_iload_n hx hb dX1_placeOf_29 rfl (lv_at hl 0 rfl) ?_
    refine lv_iconst (v := -1) hx hb dX1_placeOf_30 (by decide) ?_
    refine lv_icmp_ne (tgt := 38) hx hb dX1_placeOf_31 (by decide) (fun c_2 => ?_) (fun c_2 => ?_)
    · skip
      refine lv_iload_n hx hb dX1_placeOf_38 rfl (lv_at hl 1 rfl) ?_
      refine lv_iconst (v := 1) hx hb dX1_placeOf_39 (by decide) ?_
      refine lv_icmp_ne (tgt := 47) hx hb dX1_placeOf_40 (by decide) (fun c_3 => ?_) (fun c_3 => ?_)
      · skip
        exact absurd c_1 c_3
      · skip
        refine lv_iload_n hx hb dX1_placeOf_43 rfl (lv_at hl 0 rfl) ?_
        refine lv_goto (tgt := 51) hx hb dX1_placeOf_44 (by decide) ?_
        exact cf_roEnd hx hb hr hlocks (by simp only [mf_place, if_pos c_1, if_neg c_2, if_pos c_3, if_neg cf_n10, if_pos cf_p00, ↓reduceIte]) dX1_placeOf_51
    · skip
      refine lv_iconst (v := -1) hx hb dX1_placeOf_34 (by decide) ?_
      refine lv_goto (tgt := 51) hx hb dX1_placeOf_35 (by decide) ?_
      exact cf_roEnd hx hb hr hlocks (by simp only [mf_place, if_pos c_1, if_pos c_2, if_neg cf_n10, if_pos cf_p00, ↓reduceIte]) dX1_placeOf_51
  · skip
    refine lv_iload_n hx hb dX1_placeOf_10 rfl (lv_at hl 0 rfl) ?_
    refine lv_iconst (v := 2) hx hb dX1_placeOf_11 (by decide) ?_
    refine lv_icmp_eq (tgt := 20) hx hb dX1_placeOf_12 (by decide) (fun c_4 => ?_) (fun c_4 => ?_)
    · skip
      refine lv_iload_n hx hb dX1_placeOf_20 rfl (lv_at hl 1 rfl) ?_
      refine lv_sipush (v := 255) hx hb dX1_placeOf_21 (by decide) ?_
      refine lv_iand hx hb dX1_placeOf_24 ?_
      refine cf_callS (As := [.int (n &&& 255)]) (rest := []) ⟨hx, hb, hml, hown, hts⟩ (m_kindOf l D z (n &&& 255)) (va_cwS 1 hts gX1_placeOf_X1_kindOf rfl rfl rfl (by decide +kernel) ⟨Nat.le_of_ble_eq_true rfl, Nat.le_of_ble_eq_true rfl⟩) (hP.sub (ws' := []) [] rfl) (hK.sub (tys' := []) [] rfl) hZ hS rfl hl.1 rfl (Nat.le_of_ble_eq_true rfl) dX1_placeOf_25 ⟨Nat.zero_le _, Nat.zero_le _⟩ ?_
      refine lv_istore_n (lv' := [(2, .int (mf_kind (n &&& 255))), (1, .int (n >>> ((8 : Int32) &&& 31))), (0, .int n)]) hx hb dX1_placeOf_28 rfl hl (by decide) rfl (fun ls hl => ?_)
      refine lv_iload_n hx hb dX1_placeOf_29 rfl (lv_at hl 0 rfl) ?_
      refine lv_iconst (v := -1) hx hb dX1_placeOf_30 (by decide) ?_
      refine lv_icmp_ne (tgt := 38) hx hb dX1_placeOf_31 (by decide) (fun c_5 => ?_) (fun c_5 => ?_)
      · skip
        refine lv_iload_n hx hb dX1_placeOf_38 rfl (lv_at hl 1 rfl) ?_
        refine lv_iconst (v := 1) hx hb dX1_placeOf_39 (by decide) ?_
        refine lv_icmp_ne (tgt := 47) hx hb dX1_placeOf_40 (by decide) (fun c_6 => ?_) (fun c_6 => ?_)
        · skip
          refine lv_bipush (v := 9) hx hb dX1_placeOf_47 (by decide) ?_
          refine lv_iload_n hx hb dX1_placeOf_49 rfl (lv_at hl 0 rfl) ?_
          refine lv_iadd hx hb dX1_placeOf_50 ?_
          exact cf_roEnd hx hb hr hlocks (by simp only [mf_place, if_neg c_1, if_pos c_4, if_neg c_5, if_neg c_6, if_neg cf_n10, if_pos cf_p00, ↓reduceIte]) dX1_placeOf_51
        · skip
          exact absurd c_6 c_1
      · skip
        refine lv_iconst (v := -1) hx hb dX1_placeOf_34 (by decide) ?_
        refine lv_goto (tgt := 51) hx hb dX1_placeOf_35 (by decide) ?_
        exact cf_roEnd hx hb hr hlocks (by simp only [mf_place, if_neg c_1, if_pos c_4, if_pos c_5, if_neg cf_n10, if_pos cf_p00, ↓reduceIte]) dX1_placeOf_51
    · skip
      refine lv_iload_n hx hb dX1_placeOf_15 rfl (lv_at hl 1 rfl) ?_
      refine cf_callS (As := [.int n]) (rest := []) ⟨hx, hb, hml, hown, hts⟩ (m_hyperOf l D z n) (va_cwS 1 hts gX1_placeOf_X1_hyperOf rfl rfl rfl (by decide +kernel) ⟨Nat.le_of_ble_eq_true rfl, Nat.le_of_ble_eq_true rfl⟩) (hP.sub (ws' := []) [] rfl) (hK.sub (tys' := []) [] rfl) hZ hS rfl hl.1 rfl (Nat.le_of_ble_eq_true rfl) dX1_placeOf_16 ⟨Nat.zero_le _, Nat.zero_le _⟩ ?_
      exact cf_roEnd hx hb hr hlocks (by simp only [mf_place, if_neg c_1, if_neg c_4, if_neg cf_n10, if_pos cf_p00, ↓reduceIte]) dX1_placeOf_19
set_option maxHeartbeats 4000000 in
set_option maxRecDepth 100000 in
theorem m_firstOf (l : Launch) (D : va_G) (z : Nat → Nat) (x : Int32) (a : Int32) (b : Int32) (d : Int32) : Met l yX1_firstOf wsX1_firstOf ({ frames := 0, cells := 0, slots := 0, locals := 0 } : Room) (cf_ro [.int x, .int a, .int b, .int d] D [] [] z) (vp_Si (fun r => r = mf_fst x a b d)) 0 0 (fun _ => False) := by
  refine Met.ofW (cc := cX1_firstOf) (maxL := 4) (ret := (some .int)) (by decide) rfl ?_
  intro p e s m args below meth c s₁ B hml hv
  obtain ⟨rfl, hP, hK, hZ⟩ := hv
  have hx := B.exec
  have hb := B.bytes
  have hr := B.returns
  have hts := atoms_spec (ws := wsX1_firstOf) B.pre
  have hown : s.vm.findClass RX1 = some m.cls := findClass_of_methodNamed B.named
  have hlocks := B.notSynchronized
  have hS : va_S (fun _ => False) s.heap s.heap [] := va_S.rf
  have hl := lv_entry ([.int x, .int a, .int b, .int d]) (n := 4) (Nat.le_of_ble_eq_true rfl)
  rw [lg_entry_eq]
  generalize (lg_sl ([.int x, .int a, .int b, .int d]) ++ List.replicate (4 - (lg_sl ([.int x, .int a, .int b, .int d])).length) Slot.unset).toArray = ls at hl ⊢
  have hl : lv_has ls 4 [(0, .int x), (1, .int a), (2, .int b), (3, .int d)] := hl
  refine lv_iload_n hx hb dX1_firstOf_0 rfl (lv_at hl 0 rfl) ?_
  refine lv_iload_n hx hb dX1_firstOf_1 rfl (lv_at hl 1 rfl) ?_
  refine lv_ishr hx hb dX1_firstOf_2 ?_
  refine lv_iconst (v := 1) hx hb dX1_firstOf_3 (by decide) ?_
  refine lv_iand hx hb dX1_firstOf_4 ?_
  refine lv_iconst (v := 1) hx hb dX1_firstOf_5 (by decide) ?_
  refine lv_icmp_ne (tgt := 13) hx hb dX1_firstOf_6 (by decide) (fun c_1 => ?_) (fun c_1 => ?_)
  · skip
    refine lv_iload_n hx hb dX1_firstOf_13 rfl (lv_at hl 0 rfl) ?_
    refine lv_iload_n hx hb dX1_firstOf_14 rfl (lv_at hl 2 rfl) ?_
    refine lv_ishr hx hb dX1_firstOf_15 ?_
    refine lv_iconst (v := 1) hx hb dX1_firstOf_16 (by decide) ?_
    refine lv_iand hx hb dX1_firstOf_17 ?_
    refine lv_iconst (v := 1) hx hb dX1_firstOf_18 (by decide) ?_
    refine lv_icmp_ne (tgt := 26) hx hb dX1_firstOf_19 (by decide) (fun c_2 => ?_) (fun c_2 => ?_)
    · skip
      refine lv_iload_n hx hb dX1_firstOf_26 rfl (lv_at hl 0 rfl) ?_
      refine lv_iload_n hx hb dX1_firstOf_27 rfl (lv_at hl 3 rfl) ?_
      refine lv_ishr hx hb dX1_firstOf_28 ?_
      refine lv_iconst (v := 1) hx hb dX1_firstOf_29 (by decide) ?_
      refine lv_iand hx hb dX1_firstOf_30 ?_
      refine lv_iconst (v := 1) hx hb dX1_firstOf_31 (by decide) ?_
      refine lv_icmp_ne (tgt := 39) hx hb dX1_firstOf_32 (by decide) (fun c_3 => ?_) (fun c_3 => ?_)
      · skip
        refine lv_iconst (v := -1) hx hb dX1_firstOf_39 (by decide) ?_
        exact cf_roEnd hx hb hr hlocks (by simp only [mf_fst, if_neg c_1, if_neg c_2, if_neg c_3, if_neg cf_n10, if_pos cf_p00, ↓reduceIte]) dX1_firstOf_40
      · skip
        refine lv_iload_n hx hb dX1_firstOf_35 rfl (lv_at hl 3 rfl) ?_
        refine lv_goto (tgt := 40) hx hb dX1_firstOf_36 (by decide) ?_
        exact cf_roEnd hx hb hr hlocks (by simp only [mf_fst, if_neg c_1, if_neg c_2, if_pos c_3, if_neg cf_n10, if_pos cf_p00, ↓reduceIte]) dX1_firstOf_40
    · skip
      refine lv_iload_n hx hb dX1_firstOf_22 rfl (lv_at hl 2 rfl) ?_
      refine lv_goto (tgt := 40) hx hb dX1_firstOf_23 (by decide) ?_
      exact cf_roEnd hx hb hr hlocks (by simp only [mf_fst, if_neg c_1, if_pos c_2, if_neg cf_n10, if_pos cf_p00, ↓reduceIte]) dX1_firstOf_40
  · skip
    refine lv_iload_n hx hb dX1_firstOf_9 rfl (lv_at hl 1 rfl) ?_
    refine lv_goto (tgt := 40) hx hb dX1_firstOf_10 (by decide) ?_
    exact cf_roEnd hx hb hr hlocks (by simp only [mf_fst, if_pos c_1, if_neg cf_n10, if_pos cf_p00, ↓reduceIte]) dX1_firstOf_40
set_option maxHeartbeats 4000000 in
set_option maxRecDepth 100000 in
theorem m_has (l : Launch) (D : va_G) (z : Nat → Nat) (h0 h1 : Nat) (cA : ClassId) (k : Nat → Int32) (md : Int32) (tm al : Int64) (ln od : Int32) (x : Int32) (b : Int32) (j : Nat) (hj : j < 29) (hxj : x = nI j) : Met l yX1_has wsX1_has ({ frames := 0, cells := 0, slots := 0, locals := 0 } : Room) (cf_ro [.ref h0, .int x, .int b] D (cf_W 1 h0 h1 cA k md tm al ln od) [(cA, .int)] z) (vp_Si (fun r => r = mf_has k j b)) 0 0 (fun _ => False) := by
  refine Met.ofW (cc := cX1_has) (maxL := 3) (ret := (some .boolean)) (by decide) rfl ?_
  intro p e s m args below meth c s₁ B hml hv
  obtain ⟨rfl, hP, hK, hZ⟩ := hv
  have hx := B.exec
  have hb := B.bytes
  have hr := B.returns
  have hts := atoms_spec (ws := wsX1_has) B.pre
  have hown : s.vm.findClass RX1 = some m.cls := findClass_of_methodNamed B.named
  have hlocks := B.notSynchronized
  have hin0 : ∀ w ∈ wsX10, w ∈ wsX1_has := by decide +kernel
  have hS : va_S (fun _ => False) s.heap s.heap [] := va_S.rf
  have hl := lv_entry ([.ref h0, .int x, .int b]) (n := 3) (Nat.le_of_ble_eq_true rfl)
  rw [lg_entry_eq]
  generalize (lg_sl ([.ref h0, .int x, .int b]) ++ List.replicate (3 - (lg_sl ([.ref h0, .int x, .int b])).length) Slot.unset).toArray = ls at hl ⊢
  have hl : lv_has ls 3 [(0, .ref h0), (1, .int x), (2, .int b)] := hl
  refine lv_aload_n hx hb dX1_has_0 rfl (lv_at hl 0 rfl) ?_
  refine va_get (D := D) (ci := 1) (v := .ref h1) (C := RX1) (T := TX1) (N := 6) hx hb hts hin0 hown hK hP 0 rfl rfl 0 (by decide) (hts (.fieldLink RX1 7 "ControlFileModel" "kept" "[I") (by decide +kernel)) (fun _ h9 => h9) rfl dX1_has_1 ?_
  refine lv_iload_n hx hb dX1_has_4 rfl (lv_at hl 1 rfl) ?_
  refine cf_ld j hx hb hK hP 1 0 rfl rfl hxj hj dX1_has_5 ?_
  refine lv_iload_n hx hb dX1_has_6 rfl (lv_at hl 2 rfl) ?_
  refine lv_ishr hx hb dX1_has_7 ?_
  refine lv_iconst (v := 1) hx hb dX1_has_8 (by decide) ?_
  refine lv_iand hx hb dX1_has_9 ?_
  refine lv_iconst (v := 1) hx hb dX1_has_10 (by decide) ?_
  refine lv_icmp_ne (tgt := 18) hx hb dX1_has_11 (by decide) (fun c_1 => ?_) (fun c_1 => ?_)
  · skip
    refine lv_iconst (v := 0) hx hb dX1_has_18 (by decide) ?_
    exact cf_roEndZ hx hb hr hlocks rfl (by simp only [mf_has, if_neg c_1, if_neg cf_n10, if_pos cf_p00, ↓reduceIte]) dX1_has_19
  · skip
    refine lv_iconst (v := 1) hx hb dX1_has_14 (by decide) ?_
    refine lv_goto (tgt := 19) hx hb dX1_has_15 (by decide) ?_
    exact cf_roEndZ hx hb hr hlocks rfl (by simp only [mf_has, if_pos c_1, if_neg cf_n10, if_pos cf_p00, ↓reduceIte]) dX1_has_19
set_option maxHeartbeats 4000000 in
set_option maxRecDepth 100000 in
theorem m_tells (l : Launch) (D : va_G) (z : Nat → Nat) (h0 h1 : Nat) (cA : ClassId) (k : Nat → Int32) (md : Int32) (tm al : Int64) (ln od : Int32) (x : Int32) (hin : vp_in x 29) : Met l yX1_tells wsX1_tells ({ frames := 0, cells := 0, slots := 0, locals := 0 } : Room) (cf_ro [.ref h0, .int x] D (cf_W 1 h0 h1 cA k md tm al ln od) [(cA, .int)] z) (vp_Si (fun r => r = mf_tell k tm al ln x)) 0 0 (fun _ => False) := by
  refine Met.ofW (cc := cX1_tells) (maxL := 2) (ret := (some .int)) (by decide) rfl ?_
  intro p e s m args below meth c s₁ B hml hv
  obtain ⟨rfl, hP, hK, hZ⟩ := hv
  have hx := B.exec
  have hb := B.bytes
  have hr := B.returns
  have hts := atoms_spec (ws := wsX1_tells) B.pre
  have hown : s.vm.findClass RX1 = some m.cls := findClass_of_methodNamed B.named
  have hlocks := B.notSynchronized
  have hin0 : ∀ w ∈ wsX10, w ∈ wsX1_tells := by decide +kernel
  have hS : va_S (fun _ => False) s.heap s.heap [] := va_S.rf
  have hl := lv_entry ([.ref h0, .int x]) (n := 2) (Nat.le_of_ble_eq_true rfl)
  rw [lg_entry_eq]
  generalize (lg_sl ([.ref h0, .int x]) ++ List.replicate (2 - (lg_sl ([.ref h0, .int x])).length) Slot.unset).toArray = ls at hl ⊢
  have hl : lv_has ls 2 [(0, .ref h0), (1, .int x)] := hl
  refine lv_iload_n hx hb dX1_tells_0 rfl (lv_at hl 1 rfl) ?_
  by_cases c_1 : x = 7
  · skip
    refine lv_lookup (off := 59) (tgt := 60) hx hb dX1_tells_1 (by decide) (by rw [c_1]; decide) (by decide) ?_
    refine lv_aload_n hx hb dX1_tells_60 rfl (lv_at hl 0 rfl) ?_
    refine va_get (D := D) (ci := 1) (v := .ref h1) (C := RX1) (T := TX1) (N := 6) hx hb hts hin0 hown hK hP 0 rfl rfl 0 (by decide) (hts (.fieldLink RX1 7 "ControlFileModel" "kept" "[I") (by decide +kernel)) (fun _ h9 => h9) rfl dX1_tells_61 ?_
    refine lv_bipush (v := 7) hx hb dX1_tells_64 (by decide) ?_
    refine cf_ld 7 hx hb hK hP 1 0 rfl rfl rfl (by decide) dX1_tells_66 ?_
    refine lv_aload_n hx hb dX1_tells_67 rfl (lv_at hl 0 rfl) ?_
    refine va_get (D := D) (ci := 1) (v := .long tm) (C := RX1) (T := TX1) (N := 6) hx hb hts hin0 hown hK hP 0 rfl rfl 2 (by decide) (hts (.fieldLink RX1 20 "ControlFileModel" "time" "J") (by decide +kernel)) (fun _ h9 => h9) rfl dX1_tells_68 ?_
    refine lv_aload_n hx hb dX1_tells_71 rfl (lv_at hl 0 rfl) ?_
    refine va_get (D := D) (ci := 1) (v := .long al) (C := RX1) (T := TX1) (N := 6) hx hb hts hin0 hown hK hP 0 rfl rfl 3 (by decide) (hts (.fieldLink RX1 26 "ControlFileModel" "alarm" "J") (by decide +kernel)) (fun _ h9 => h9) rfl dX1_tells_72 ?_
    refine W.lcmp hx hb dX1_tells_75 ?_
    refine lv_if_lt (tgt := 84) hx hb dX1_tells_76 (by decide) (fun c_2 => ?_) (fun c_2 => ?_)
    · skip
      refine lv_iconst (v := 0) hx hb dX1_tells_84 (by decide) ?_
      refine lv_ior hx hb dX1_tells_85 ?_
      refine lv_aload_n hx hb dX1_tells_86 rfl (lv_at hl 0 rfl) ?_
      refine va_get (D := D) (ci := 1) (v := .int ln) (C := RX1) (T := TX1) (N := 6) hx hb hts hin0 hown hK hP 0 rfl rfl 4 (by decide) (hts (.fieldLink RX1 29 "ControlFileModel" "line" "Z") (by decide +kernel)) (fun _ h9 => h9) rfl dX1_tells_87 ?_
      refine lv_if_eq (tgt := 99) hx hb dX1_tells_90 (by decide) (fun c_3 => ?_) (fun c_3 => ?_)
      · skip
        refine lv_iconst (v := 0) hx hb dX1_tells_99 (by decide) ?_
        refine lv_ior hx hb dX1_tells_100 ?_
        exact cf_roEnd hx hb hr hlocks (by simp only [mf_tell, mf_pend, if_pos c_1, if_pos c_2, if_pos c_3, if_neg cf_n10, if_pos cf_p00, ↓reduceIte]) dX1_tells_101
      · skip
        refine lv_sipush (v := 512) hx hb dX1_tells_93 (by decide) ?_
        refine lv_goto (tgt := 100) hx hb dX1_tells_96 (by decide) ?_
        refine lv_ior hx hb dX1_tells_100 ?_
        exact cf_roEnd hx hb hr hlocks (by simp only [mf_tell, mf_pend, if_pos c_1, if_pos c_2, if_neg c_3, if_neg cf_n10, if_pos cf_p00, ↓reduceIte]) dX1_tells_101
    · skip
      refine lv_bipush (v := 32) hx hb dX1_tells_79 (by decide) ?_
      refine lv_goto (tgt := 85) hx hb dX1_tells_81 (by decide) ?_
      refine lv_ior hx hb dX1_tells_85 ?_
      refine lv_aload_n hx hb dX1_tells_86 rfl (lv_at hl 0 rfl) ?_
      refine va_get (D := D) (ci := 1) (v := .int ln) (C := RX1) (T := TX1) (N := 6) hx hb hts hin0 hown hK hP 0 rfl rfl 4 (by decide) (hts (.fieldLink RX1 29 "ControlFileModel" "line" "Z") (by decide +kernel)) (fun _ h9 => h9) rfl dX1_tells_87 ?_
      refine lv_if_eq (tgt := 99) hx hb dX1_tells_90 (by decide) (fun c_4 => ?_) (fun c_4 => ?_)
      · skip
        refine lv_iconst (v := 0) hx hb dX1_tells_99 (by decide) ?_
        refine lv_ior hx hb dX1_tells_100 ?_
        exact cf_roEnd hx hb hr hlocks (by simp only [mf_tell, mf_pend, if_pos c_1, if_neg c_2, if_pos c_4, if_neg cf_n10, if_pos cf_p00, ↓reduceIte]) dX1_tells_101
      · skip
        refine lv_sipush (v := 512) hx hb dX1_tells_93 (by decide) ?_
        refine lv_goto (tgt := 100) hx hb dX1_tells_96 (by decide) ?_
        refine lv_ior hx hb dX1_tells_100 ?_
        exact cf_roEnd hx hb hr hlocks (by simp only [mf_tell, mf_pend, if_pos c_1, if_neg c_2, if_neg c_4, if_neg cf_n10, if_pos cf_p00, ↓reduceIte]) dX1_tells_101
  by_cases c_5 : x = 10
  · skip
    refine lv_lookup (off := 101) (tgt := 102) hx hb dX1_tells_1 (by decide) (by rw [c_5]; decide) (by decide) ?_
    refine lv_aload_n hx hb dX1_tells_102 rfl (lv_at hl 0 rfl) ?_
    refine va_get (D := D) (ci := 1) (v := .ref h1) (C := RX1) (T := TX1) (N := 6) hx hb hts hin0 hown hK hP 0 rfl rfl 0 (by decide) (hts (.fieldLink RX1 7 "ControlFileModel" "kept" "[I") (by decide +kernel)) (fun _ h9 => h9) rfl dX1_tells_103 ?_
    refine lv_bipush (v := 21) hx hb dX1_tells_106 (by decide) ?_
    refine cf_ld 21 hx hb hK hP 1 0 rfl rfl rfl (by decide) dX1_tells_108 ?_
    refine lv_aload_n hx hb dX1_tells_109 rfl (lv_at hl 0 rfl) ?_
    refine va_get (D := D) (ci := 1) (v := .ref h1) (C := RX1) (T := TX1) (N := 6) hx hb hts hin0 hown hK hP 0 rfl rfl 0 (by decide) (hts (.fieldLink RX1 7 "ControlFileModel" "kept" "[I") (by decide +kernel)) (fun _ h9 => h9) rfl dX1_tells_110 ?_
    refine lv_bipush (v := 20) hx hb dX1_tells_113 (by decide) ?_
    refine cf_ld 20 hx hb hK hP 1 0 rfl rfl rfl (by decide) dX1_tells_115 ?_
    refine lv_iand hx hb dX1_tells_116 ?_
    refine lv_iconst (v := 1) hx hb dX1_tells_117 (by decide) ?_
    refine lv_ishr hx hb dX1_tells_118 ?_
    exact cf_roEnd hx hb hr hlocks (by simp only [mf_tell, mf_pend, if_neg c_1, if_pos c_5, if_neg cf_n10, if_pos cf_p00, ↓reduceIte]) dX1_tells_119
  by_cases c_6 : x = 16
  · skip
    refine lv_lookup (off := 119) (tgt := 120) hx hb dX1_tells_1 (by decide) (by rw [c_6]; decide) (by decide) ?_
    refine lv_aload_n hx hb dX1_tells_120 rfl (lv_at hl 0 rfl) ?_
    refine va_get (D := D) (ci := 1) (v := .ref h1) (C := RX1) (T := TX1) (N := 6) hx hb hts hin0 hown hK hP 0 rfl rfl 0 (by decide) (hts (.fieldLink RX1 7 "ControlFileModel" "kept" "[I") (by decide +kernel)) (fun _ h9 => h9) rfl dX1_tells_121 ?_
    refine lv_bipush (v := 24) hx hb dX1_tells_124 (by decide) ?_
    refine cf_ld 24 hx hb hK hP 1 0 rfl rfl rfl (by decide) dX1_tells_126 ?_
    refine lv_aload_n hx hb dX1_tells_127 rfl (lv_at hl 0 rfl) ?_
    refine va_get (D := D) (ci := 1) (v := .ref h1) (C := RX1) (T := TX1) (N := 6) hx hb hts hin0 hown hK hP 0 rfl rfl 0 (by decide) (hts (.fieldLink RX1 7 "ControlFileModel" "kept" "[I") (by decide +kernel)) (fun _ h9 => h9) rfl dX1_tells_128 ?_
    refine lv_bipush (v := 20) hx hb dX1_tells_131 (by decide) ?_
    refine cf_ld 20 hx hb hK hP 1 0 rfl rfl rfl (by decide) dX1_tells_133 ?_
    refine lv_iand hx hb dX1_tells_134 ?_
    refine lv_iconst (v := 1) hx hb dX1_tells_135 (by decide) ?_
    refine lv_ishr hx hb dX1_tells_136 ?_
    exact cf_roEnd hx hb hr hlocks (by simp only [mf_tell, mf_pend, if_neg c_1, if_neg c_5, if_pos c_6, if_neg cf_n10, if_pos cf_p00, ↓reduceIte]) dX1_tells_137
  by_cases c_7 : x = 23
  · skip
    refine lv_lookup (off := 137) (tgt := 138) hx hb dX1_tells_1 (by decide) (by rw [c_7]; decide) (by decide) ?_
    refine lv_aload_n hx hb dX1_tells_138 rfl (lv_at hl 0 rfl) ?_
    refine va_get (D := D) (ci := 1) (v := .ref h1) (C := RX1) (T := TX1) (N := 6) hx hb hts hin0 hown hK hP 0 rfl rfl 0 (by decide) (hts (.fieldLink RX1 7 "ControlFileModel" "kept" "[I") (by decide +kernel)) (fun _ h9 => h9) rfl dX1_tells_139 ?_
    refine lv_bipush (v := 24) hx hb dX1_tells_142 (by decide) ?_
    refine cf_ld 24 hx hb hK hP 1 0 rfl rfl rfl (by decide) dX1_tells_144 ?_
    exact cf_roEnd hx hb hr hlocks (by simp only [mf_tell, mf_pend, if_neg c_1, if_neg c_5, if_neg c_6, if_pos c_7, if_neg cf_n10, if_pos cf_p00, ↓reduceIte]) dX1_tells_145
  by_cases c_8 : x = 27
  · skip
    refine lv_lookup (off := 145) (tgt := 146) hx hb dX1_tells_1 (by decide) (by rw [c_8]; decide) (by decide) ?_
    refine lv_aload_n hx hb dX1_tells_146 rfl (lv_at hl 0 rfl) ?_
    refine va_get (D := D) (ci := 1) (v := .long tm) (C := RX1) (T := TX1) (N := 6) hx hb hts hin0 hown hK hP 0 rfl rfl 2 (by decide) (hts (.fieldLink RX1 20 "ControlFileModel" "time" "J") (by decide +kernel)) (fun _ h9 => h9) rfl dX1_tells_147 ?_
    refine lv_l2i (v := tm.toInt32) hx hb dX1_tells_150 rfl ?_
    exact cf_roEnd hx hb hr hlocks (by simp only [mf_tell, mf_pend, if_neg c_1, if_neg c_5, if_neg c_6, if_neg c_7, if_pos c_8, if_neg cf_n10, if_pos cf_p00, ↓reduceIte]) dX1_tells_151
  by_cases c_9 : x = 28
  · skip
    refine lv_lookup (off := 151) (tgt := 152) hx hb dX1_tells_1 (by decide) (by rw [c_9]; decide) (by decide) ?_
    refine lv_aload_n hx hb dX1_tells_152 rfl (lv_at hl 0 rfl) ?_
    refine va_get (D := D) (ci := 1) (v := .long tm) (C := RX1) (T := TX1) (N := 6) hx hb hts hin0 hown hK hP 0 rfl rfl 2 (by decide) (hts (.fieldLink RX1 20 "ControlFileModel" "time" "J") (by decide +kernel)) (fun _ h9 => h9) rfl dX1_tells_153 ?_
    refine lv_bipush (v := 32) hx hb dX1_tells_156 (by decide) ?_
    refine lv_lshr (v := cf_lsh tm 32) hx hb dX1_tells_158 rfl ?_
    refine lv_l2i (v := (cf_lsh tm 32).toInt32) hx hb dX1_tells_159 rfl ?_
    exact cf_roEnd hx hb hr hlocks (by simp only [mf_tell, mf_pend, if_neg c_1, if_neg c_5, if_neg c_6, if_neg c_7, if_neg c_8, if_pos c_9, if_neg cf_n10, if_pos cf_p00, ↓reduceIte]) dX1_tells_160
  refine lv_lookup (off := 160) (tgt := 161) hx hb dX1_tells_1 (by decide) (show Op.lookupswitch.offset [(7, 59), (10, 101), (16, 119), (23, 137), (27, 145), (28, 151)] 160 (x).toInt = 160 by rw [Op.lookupswitch.offset_cons, if_neg (cf_ne (a := 7) (by decide) c_1), Op.lookupswitch.offset_cons, if_neg (cf_ne (a := 10) (by decide) c_5), Op.lookupswitch.offset_cons, if_neg (cf_ne (a := 16) (by decide) c_6), Op.lookupswitch.offset_cons, if_neg (cf_ne (a := 23) (by decide) c_7), Op.lookupswitch.offset_cons, if_neg (cf_ne (a := 27) (by decide) c_8), Op.lookupswitch.offset_cons, if_neg (cf_ne (a := 28) (by decide) c_9), Op.lookupswitch.offset_nil]) (by decide) ?_
  refine lv_aload_n hx hb dX1_tells_161 rfl (lv_at hl 0 rfl) ?_
  refine va_get (D := D) (ci := 1) (v := .ref h1) (C := RX1) (T := TX1) (N := 6) hx hb hts hin0 hown hK hP 0 rfl rfl 0 (by decide) (hts (.fieldLink RX1 7 "ControlFileModel" "kept" "[I") (by decide +kernel)) (fun _ h9 => h9) rfl dX1_tells_162 ?_
  refine lv_iload_n hx hb dX1_tells_165 rfl (lv_at hl 1 rfl) ?_
  refine va_iald hx hb hK hP 1 0 rfl rfl hin dX1_tells_166 ?_
  exact cf_roEnd hx hb hr hlocks (by simp only [mf_tell, mf_pend, if_neg c_1, if_neg c_5, if_neg c_6, if_neg c_7, if_neg c_8, if_neg c_9, if_neg cf_n10, if_pos cf_p00, ↓reduceIte]) dX1_tells_167
set_option maxHeartbeats 4000000 in
set_option maxRecDepth 100000 in
theorem m_maskOf (l : Launch) (D : va_G) (z : Nat → Nat) (x : Int32) (hin : vp_in x 29) : Met l yX1_maskOf wsX1_maskOf ({ frames := 0, cells := 0, slots := 0, locals := 0 } : Room) (cf_ro [.int x] D [] [] z) (vp_Si (fun r => r = mf_mask x)) 0 0 (fun _ => False) := by
  refine Met.ofW (cc := cX1_maskOf) (maxL := 1) (ret := (some .int)) (by decide) rfl ?_
  intro p e s m args below meth c s₁ B hml hv
  obtain ⟨rfl, hP, hK, hZ⟩ := hv
  have hx := B.exec
  have hb := B.bytes
  have hr := B.returns
  have hts := atoms_spec (ws := wsX1_maskOf) B.pre
  have hown : s.vm.findClass RX1 = some m.cls := findClass_of_methodNamed B.named
  have hlocks := B.notSynchronized
  have hS : va_S (fun _ => False) s.heap s.heap [] := va_S.rf
  have hl := lv_entry ([.int x]) (n := 1) (Nat.le_of_ble_eq_true rfl)
  rw [lg_entry_eq]
  generalize (lg_sl ([.int x]) ++ List.replicate (1 - (lg_sl ([.int x])).length) Slot.unset).toArray = ls at hl ⊢
  have hl : lv_has ls 1 [(0, .int x)] := hl
  refine lv_iload_n hx hb dX1_maskOf_0 rfl (lv_at hl 0 rfl) ?_
  obtain ⟨j, hj, rfl⟩ := vp_in_of hin (by decide)
  rcases (show j = 0 ∨ j = 1 ∨ j = 2 ∨ j = 3 ∨ j = 4 ∨ j = 5 ∨ j = 6 ∨ j = 7 ∨ j = 8 ∨ j = 9 ∨ j = 10 ∨ j = 11 ∨ j = 12 ∨ j = 13 ∨ j = 14 ∨ j = 15 ∨ j = 16 ∨ j = 17 ∨ j = 18 ∨ j = 19 ∨ j = 20 ∨ j = 21 ∨ j = 22 ∨ j = 23 ∨ j = 24 ∨ j = 25 ∨ j = 26 ∨ j = 27 ∨ j = 28 by omega) with rfl | rfl | rfl | rfl | rfl | rfl | rfl | rfl | rfl | rfl | rfl | rfl | rfl | rfl | rfl | rfl | rfl | rfl | rfl | rfl | rfl | rfl | rfl | rfl | rfl | rfl | rfl | rfl | rfl
  · skip
    refine lv_tableIn (off := 123) (tgt := 124) hx hb dX1_maskOf_1 (by decide) (by decide) rfl (by decide) ?_
    refine lv_ldc (own := RX1) (v := 786722) hx hb hown (hts (.constant RX1 45 786722) (by decide +kernel)) dX1_maskOf_124 ?_
    exact cf_roEnd hx hb hr hlocks (by decide) dX1_maskOf_126
  · skip
    refine lv_tableIn (off := 126) (tgt := 127) hx hb dX1_maskOf_1 (by decide) (by decide) rfl (by decide) ?_
    refine lv_sipush (v := 546) hx hb dX1_maskOf_127 (by decide) ?_
    exact cf_roEnd hx hb hr hlocks (by decide) dX1_maskOf_130
  · skip
    refine lv_tableIn (off := 130) (tgt := 131) hx hb dX1_maskOf_1 (by decide) (by decide) rfl (by decide) ?_
    refine lv_bipush (v := -3) hx hb dX1_maskOf_131 (by decide) ?_
    exact cf_roEnd hx hb hr hlocks (by decide) dX1_maskOf_133
  · skip
    refine lv_tableIn (off := 154) (tgt := 155) hx hb dX1_maskOf_1 (by decide) (by decide) rfl (by decide) ?_
    refine lv_iconst (v := -1) hx hb dX1_maskOf_155 (by decide) ?_
    exact cf_roEnd hx hb hr hlocks (by decide) dX1_maskOf_156
  · skip
    refine lv_tableIn (off := 133) (tgt := 134) hx hb dX1_maskOf_1 (by decide) (by decide) rfl (by decide) ?_
    refine lv_bipush (v := -4) hx hb dX1_maskOf_134 (by decide) ?_
    exact cf_roEnd hx hb hr hlocks (by decide) dX1_maskOf_136
  · skip
    refine lv_tableIn (off := 154) (tgt := 155) hx hb dX1_maskOf_1 (by decide) (by decide) rfl (by decide) ?_
    refine lv_iconst (v := -1) hx hb dX1_maskOf_155 (by decide) ?_
    exact cf_roEnd hx hb hr hlocks (by decide) dX1_maskOf_156
  · skip
    refine lv_tableIn (off := 154) (tgt := 155) hx hb dX1_maskOf_1 (by decide) (by decide) rfl (by decide) ?_
    refine lv_iconst (v := -1) hx hb dX1_maskOf_155 (by decide) ?_
    exact cf_roEnd hx hb hr hlocks (by decide) dX1_maskOf_156
  · skip
    refine lv_tableIn (off := 139) (tgt := 140) hx hb dX1_maskOf_1 (by decide) (by decide) rfl (by decide) ?_
    refine lv_iconst (v := 2) hx hb dX1_maskOf_140 (by decide) ?_
    exact cf_roEnd hx hb hr hlocks (by decide) dX1_maskOf_141
  · skip
    refine lv_tableIn (off := 136) (tgt := 137) hx hb dX1_maskOf_1 (by decide) (by decide) rfl (by decide) ?_
    refine lv_ldc (own := RX1) (v := -2143289345) hx hb hown (hts (.constant RX1 46 (-2143289345)) (by decide +kernel)) dX1_maskOf_137 ?_
    exact cf_roEnd hx hb hr hlocks (by decide) dX1_maskOf_139
  · skip
    refine lv_tableIn (off := 123) (tgt := 124) hx hb dX1_maskOf_1 (by decide) (by decide) rfl (by decide) ?_
    refine lv_ldc (own := RX1) (v := 786722) hx hb hown (hts (.constant RX1 45 786722) (by decide +kernel)) dX1_maskOf_124 ?_
    exact cf_roEnd hx hb hr hlocks (by decide) dX1_maskOf_126
  · skip
    refine lv_tableIn (off := 154) (tgt := 155) hx hb dX1_maskOf_1 (by decide) (by decide) rfl (by decide) ?_
    refine lv_iconst (v := -1) hx hb dX1_maskOf_155 (by decide) ?_
    exact cf_roEnd hx hb hr hlocks (by decide) dX1_maskOf_156
  · skip
    refine lv_tableIn (off := 130) (tgt := 131) hx hb dX1_maskOf_1 (by decide) (by decide) rfl (by decide) ?_
    refine lv_bipush (v := -3) hx hb dX1_maskOf_131 (by decide) ?_
    exact cf_roEnd hx hb hr hlocks (by decide) dX1_maskOf_133
  · skip
    refine lv_tableIn (off := 154) (tgt := 155) hx hb dX1_maskOf_1 (by decide) (by decide) rfl (by decide) ?_
    refine lv_iconst (v := -1) hx hb dX1_maskOf_155 (by decide) ?_
    exact cf_roEnd hx hb hr hlocks (by decide) dX1_maskOf_156
  · skip
    refine lv_tableIn (off := 133) (tgt := 134) hx hb dX1_maskOf_1 (by decide) (by decide) rfl (by decide) ?_
    refine lv_bipush (v := -4) hx hb dX1_maskOf_134 (by decide) ?_
    exact cf_roEnd hx hb hr hlocks (by decide) dX1_maskOf_136
  · skip
    refine lv_tableIn (off := 154) (tgt := 155) hx hb dX1_maskOf_1 (by decide) (by decide) rfl (by decide) ?_
    refine lv_iconst (v := -1) hx hb dX1_maskOf_155 (by decide) ?_
    exact cf_roEnd hx hb hr hlocks (by decide) dX1_maskOf_156
  · skip
    refine lv_tableIn (off := 154) (tgt := 155) hx hb dX1_maskOf_1 (by decide) (by decide) rfl (by decide) ?_
    refine lv_iconst (v := -1) hx hb dX1_maskOf_155 (by decide) ?_
    exact cf_roEnd hx hb hr hlocks (by decide) dX1_maskOf_156
  · skip
    refine lv_tableIn (off := 154) (tgt := 155) hx hb dX1_maskOf_1 (by decide) (by decide) rfl (by decide) ?_
    refine lv_iconst (v := -1) hx hb dX1_maskOf_155 (by decide) ?_
    exact cf_roEnd hx hb hr hlocks (by decide) dX1_maskOf_156
  · skip
    refine lv_tableIn (off := 136) (tgt := 137) hx hb dX1_maskOf_1 (by decide) (by decide) rfl (by decide) ?_
    refine lv_ldc (own := RX1) (v := -2143289345) hx hb hown (hts (.constant RX1 46 (-2143289345)) (by decide +kernel)) dX1_maskOf_137 ?_
    exact cf_roEnd hx hb hr hlocks (by decide) dX1_maskOf_139
  · skip
    refine lv_tableIn (off := 141) (tgt := 142) hx hb dX1_maskOf_1 (by decide) (by decide) rfl (by decide) ?_
    refine lv_ldc (own := RX1) (v := 7340992) hx hb hown (hts (.constant RX1 47 7340992) (by decide +kernel)) dX1_maskOf_142 ?_
    exact cf_roEnd hx hb hr hlocks (by decide) dX1_maskOf_144
  · skip
    refine lv_tableIn (off := 144) (tgt := 145) hx hb dX1_maskOf_1 (by decide) (by decide) rfl (by decide) ?_
    refine lv_ldc (own := RX1) (v := 45567) hx hb hown (hts (.constant RX1 48 45567) (by decide +kernel)) dX1_maskOf_145 ?_
    exact cf_roEnd hx hb hr hlocks (by decide) dX1_maskOf_147
  · skip
    refine lv_tableIn (off := 147) (tgt := 148) hx hb dX1_maskOf_1 (by decide) (by decide) rfl (by decide) ?_
    refine lv_sipush (v := 1092) hx hb dX1_maskOf_148 (by decide) ?_
    exact cf_roEnd hx hb hr hlocks (by decide) dX1_maskOf_151
  · skip
    refine lv_tableIn (off := 147) (tgt := 148) hx hb dX1_maskOf_1 (by decide) (by decide) rfl (by decide) ?_
    refine lv_sipush (v := 1092) hx hb dX1_maskOf_148 (by decide) ?_
    exact cf_roEnd hx hb hr hlocks (by decide) dX1_maskOf_151
  · skip
    refine lv_tableIn (off := 154) (tgt := 155) hx hb dX1_maskOf_1 (by decide) (by decide) rfl (by decide) ?_
    refine lv_iconst (v := -1) hx hb dX1_maskOf_155 (by decide) ?_
    exact cf_roEnd hx hb hr hlocks (by decide) dX1_maskOf_156
  · skip
    refine lv_tableIn (off := 154) (tgt := 155) hx hb dX1_maskOf_1 (by decide) (by decide) rfl (by decide) ?_
    refine lv_iconst (v := -1) hx hb dX1_maskOf_155 (by decide) ?_
    exact cf_roEnd hx hb hr hlocks (by decide) dX1_maskOf_156
  · skip
    refine lv_tableIn (off := 147) (tgt := 148) hx hb dX1_maskOf_1 (by decide) (by decide) rfl (by decide) ?_
    refine lv_sipush (v := 1092) hx hb dX1_maskOf_148 (by decide) ?_
    exact cf_roEnd hx hb hr hlocks (by decide) dX1_maskOf_151
  · skip
    refine lv_tableIn (off := 154) (tgt := 155) hx hb dX1_maskOf_1 (by decide) (by decide) rfl (by decide) ?_
    refine lv_iconst (v := -1) hx hb dX1_maskOf_155 (by decide) ?_
    exact cf_roEnd hx hb hr hlocks (by decide) dX1_maskOf_156
  · skip
    refine lv_tableIn (off := 151) (tgt := 152) hx hb dX1_maskOf_1 (by decide) (by decide) rfl (by decide) ?_
    refine lv_ldc (own := RX1) (v := -2143289348) hx hb hown (hts (.constant RX1 49 (-2143289348)) (by decide +kernel)) dX1_maskOf_152 ?_
    exact cf_roEnd hx hb hr hlocks (by decide) dX1_maskOf_154
  · skip
    refine lv_tableOut (tgt := 155) hx hb dX1_maskOf_1 (Or.inr (by decide)) (by decide) ?_
    refine lv_iconst (v := -1) hx hb dX1_maskOf_155 (by decide) ?_
    exact cf_roEnd hx hb hr hlocks (by decide) dX1_maskOf_156
  · skip
    refine lv_tableOut (tgt := 155) hx hb dX1_maskOf_1 (Or.inr (by decide)) (by decide) ?_
    refine lv_iconst (v := -1) hx hb dX1_maskOf_155 (by decide) ?_
    exact cf_roEnd hx hb hr hlocks (by decide) dX1_maskOf_156
set_option maxHeartbeats 4000000 in
set_option maxRecDepth 100000 in
theorem m_refusal (l : Launch) (D : va_G) (z : Nat → Nat) (h0 h1 : Nat) (cA : ClassId) (k : Nat → Int32) (md : Int32) (tm al : Int64) (ln od : Int32) (x : Int32) (w : Int32) : Met l yX1_refusal wsX1_refusal ({ frames := 1, cells := 0, slots := 0, locals := 22 } : Room) (cf_ro [.ref h0, .int x, .int w] D (cf_W 1 h0 h1 cA k md tm al ln od) [(cA, .int)] z) (vp_Si (fun r => r = mf_ref k md x w)) 0 0 (fun _ => False) := by
  refine Met.ofW (cc := cX1_refusal) (maxL := 5) (ret := (some .int)) (by decide) rfl ?_
  intro p e s m args below meth c s₁ B hml hv
  obtain ⟨rfl, hP, hK, hZ⟩ := hv
  have hx := B.exec
  have hb := B.bytes
  have hr := B.returns
  have hts := atoms_spec (ws := wsX1_refusal) B.pre
  have hown : s.vm.findClass RX1 = some m.cls := findClass_of_methodNamed B.named
  have hlocks := B.notSynchronized
  have hin0 : ∀ w ∈ wsX10, w ∈ wsX1_refusal := by decide +kernel
  have hS : va_S (fun _ => False) s.heap s.heap [] := va_S.rf
  have hl := lv_entry ([.ref h0, .int x, .int w]) (n := 5) (Nat.le_of_ble_eq_true rfl)
  rw [lg_entry_eq]
  generalize (lg_sl ([.ref h0, .int x, .int w]) ++ List.replicate (5 - (lg_sl ([.ref h0, .int x, .int w])).length) Slot.unset).toArray = ls at hl ⊢
  have hl : lv_has ls 5 [(0, .ref h0), (1, .int x), (2, .int w)] := hl
  refine lv_iload_n hx hb dX1_refusal_0 rfl (lv_at hl 1 rfl) ?_
  refine lv_bipush (v := 27) hx hb dX1_refusal_1 (by decide) ?_
  refine lv_icmp_eq (tgt := 12) hx hb dX1_refusal_3 (by decide) (fun c_1 => ?_) (fun c_1 => ?_)
  · skip
    refine lv_iconst (v := 1) hx hb dX1_refusal_12 (by decide) ?_
    refine lv_goto (tgt := 17) hx hb dX1_refusal_13 (by decide) ?_
    refine lv_istore_n (lv' := [(3, .int 1), (0, .ref h0), (1, .int x), (2, .int w)]) hx hb dX1_refusal_17 rfl hl (by decide) rfl (fun ls hl => ?_)
    refine lv_iload_n hx hb dX1_refusal_18 rfl (lv_at hl 2 rfl) ?_
    refine lv_iconst (v := -1) hx hb dX1_refusal_19 (by decide) ?_
    refine lv_icmp_eq (tgt := 31) hx hb dX1_refusal_20 (by decide) (fun c_2 => ?_) (fun c_2 => ?_)
    · skip
      refine lv_iconst (v := 2) hx hb dX1_refusal_31 (by decide) ?_
      exact cf_roEnd hx hb hr hlocks (by simp only [mf_ref, mf_ref2, cf_ofT, if_pos c_1, if_pos c_2, if_neg cf_n10, if_pos cf_p00, ↓reduceIte]) dX1_refusal_32
    · skip
      refine lv_iload_n hx hb dX1_refusal_23 rfl (lv_at hl 0 rfl) ?_
      refine lv_if_eq (tgt := 33) hx hb dX1_refusal_24 (by decide) (fun c_3 => ?_) (fun c_3 => ?_)
      · skip
        exact absurd c_3 (by decide)
      · skip
        refine lv_iload_n hx hb dX1_refusal_27 rfl (lv_at hl 3 rfl) ?_
        refine lv_if_eq (tgt := 33) hx hb dX1_refusal_28 (by decide) (fun c_4 => ?_) (fun c_4 => ?_)
        · skip
          refine lv_aload_n hx hb dX1_refusal_33 rfl (lv_at hl 1 rfl) ?_
          refine va_get (D := D) (ci := 1) (v := .int md) (C := RX1) (T := TX1) (N := 6) hx hb hts hin0 hown hK hP 0 rfl rfl 1 (by decide) (hts (.fieldLink RX1 16 "ControlFileModel" "mode" "I") (by decide +kernel)) (fun _ h9 => h9) rfl dX1_refusal_34 ?_
          refine lv_iconst (v := 1) hx hb dX1_refusal_37 (by decide) ?_
          refine lv_icmp_eq (tgt := 45) hx hb dX1_refusal_38 (by decide) (fun c_5 => ?_) (fun c_5 => ?_)
          · skip
            refine lv_iconst (v := 0) hx hb dX1_refusal_45 (by decide) ?_
            exact cf_roEnd hx hb hr hlocks (by simp only [mf_ref, mf_ref2, cf_ofT, if_pos c_1, if_neg c_2, if_neg c_3, if_pos c_4, if_pos c_5, if_neg cf_n10, if_pos cf_p00, ↓reduceIte]) dX1_refusal_46
          · skip
            refine lv_iload_n hx hb dX1_refusal_41 rfl (lv_at hl 0 rfl) ?_
            refine lv_if_eq (tgt := 47) hx hb dX1_refusal_42 (by decide) (fun c_6 => ?_) (fun c_6 => ?_)
            · skip
              exact absurd c_6 c_3
            · skip
              refine lv_iconst (v := 0) hx hb dX1_refusal_45 (by decide) ?_
              exact cf_roEnd hx hb hr hlocks (by simp only [mf_ref, mf_ref2, cf_ofT, if_pos c_1, if_neg c_2, if_neg c_3, if_pos c_4, if_neg c_5, if_neg c_6, if_neg cf_n10, if_pos cf_p00, ↓reduceIte]) dX1_refusal_46
        · skip
          refine lv_iconst (v := 2) hx hb dX1_refusal_31 (by decide) ?_
          exact cf_roEnd hx hb hr hlocks (by simp only [mf_ref, mf_ref2, cf_ofT, if_pos c_1, if_neg c_2, if_neg c_3, if_neg c_4, if_neg cf_n10, if_pos cf_p00, ↓reduceIte]) dX1_refusal_32
  · skip
    refine lv_iload_n hx hb dX1_refusal_6 rfl (lv_at hl 1 rfl) ?_
    refine lv_bipush (v := 28) hx hb dX1_refusal_7 (by decide) ?_
    refine lv_icmp_ne (tgt := 16) hx hb dX1_refusal_9 (by decide) (fun c_7 => ?_) (fun c_7 => ?_)
    · skip
      refine lv_iconst (v := 0) hx hb dX1_refusal_16 (by decide) ?_
      refine lv_istore_n (lv' := [(3, .int 0), (0, .ref h0), (1, .int x), (2, .int w)]) hx hb dX1_refusal_17 rfl hl (by decide) rfl (fun ls hl => ?_)
      refine lv_iload_n hx hb dX1_refusal_18 rfl (lv_at hl 2 rfl) ?_
      refine lv_iconst (v := -1) hx hb dX1_refusal_19 (by decide) ?_
      refine lv_icmp_eq (tgt := 31) hx hb dX1_refusal_20 (by decide) (fun c_8 => ?_) (fun c_8 => ?_)
      · skip
        refine lv_iconst (v := 2) hx hb dX1_refusal_31 (by decide) ?_
        exact cf_roEnd hx hb hr hlocks (by simp only [mf_ref, mf_ref2, cf_ofT, if_neg c_1, if_neg c_7, if_pos c_8, if_neg cf_n10, if_pos cf_p00, ↓reduceIte]) dX1_refusal_32
      · skip
        refine lv_iload_n hx hb dX1_refusal_23 rfl (lv_at hl 0 rfl) ?_
        refine lv_if_eq (tgt := 33) hx hb dX1_refusal_24 (by decide) (fun c_9 => ?_) (fun c_9 => ?_)
        · skip
          refine lv_aload_n hx hb dX1_refusal_33 rfl (lv_at hl 1 rfl) ?_
          refine va_get (D := D) (ci := 1) (v := .int md) (C := RX1) (T := TX1) (N := 6) hx hb hts hin0 hown hK hP 0 rfl rfl 1 (by decide) (hts (.fieldLink RX1 16 "ControlFileModel" "mode" "I") (by decide +kernel)) (fun _ h9 => h9) rfl dX1_refusal_34 ?_
          refine lv_iconst (v := 1) hx hb dX1_refusal_37 (by decide) ?_
          refine lv_icmp_eq (tgt := 45) hx hb dX1_refusal_38 (by decide) (fun c_10 => ?_) (fun c_10 => ?_)
          · skip
            refine lv_iconst (v := 0) hx hb dX1_refusal_45 (by decide) ?_
            exact cf_roEnd hx hb hr hlocks (by simp only [mf_ref, mf_ref2, cf_ofT, if_neg c_1, if_neg c_7, if_neg c_8, if_pos c_9, if_pos c_10, if_neg cf_n10, if_pos cf_p00, ↓reduceIte]) dX1_refusal_46
          · skip
            refine lv_iload_n hx hb dX1_refusal_41 rfl (lv_at hl 0 rfl) ?_
            refine lv_if_eq (tgt := 47) hx hb dX1_refusal_42 (by decide) (fun c_11 => ?_) (fun c_11 => ?_)
            · skip
              refine lv_aload_n hx hb dX1_refusal_47 rfl (lv_at hl 1 rfl) ?_
              refine va_get (D := D) (ci := 1) (v := .int md) (C := RX1) (T := TX1) (N := 6) hx hb hts hin0 hown hK hP 0 rfl rfl 1 (by decide) (hts (.fieldLink RX1 16 "ControlFileModel" "mode" "I") (by decide +kernel)) (fun _ h9 => h9) rfl dX1_refusal_48 ?_
              refine lv_if_ne (tgt := 56) hx hb dX1_refusal_51 (by decide) (fun c_12 => ?_) (fun c_12 => ?_)
              · skip
                refine lv_aload_n hx hb dX1_refusal_56 rfl (lv_at hl 1 rfl) ?_
                refine va_get (D := D) (ci := 1) (v := .int md) (C := RX1) (T := TX1) (N := 6) hx hb hts hin0 hown hK hP 0 rfl rfl 1 (by decide) (hts (.fieldLink RX1 16 "ControlFileModel" "mode" "I") (by decide +kernel)) (fun _ h9 => h9) rfl dX1_refusal_57 ?_
                refine lv_iconst (v := 3) hx hb dX1_refusal_60 (by decide) ?_
                refine lv_icmp_ne (tgt := 91) hx hb dX1_refusal_61 (by decide) (fun c_13 => ?_) (fun c_13 => ?_)
                · skip
                  refine lv_iconst (v := 0) hx hb dX1_refusal_91 (by decide) ?_
                  refine lv_istore (lv' := [(4, .int 0), (3, .int 0), (0, .ref h0), (1, .int x), (2, .int w)]) hx hb dX1_refusal_92 hl (by decide) rfl (fun ls hl => ?_)
                  refine lv_iload hx hb dX1_refusal_94 (lv_at hl 0 rfl) ?_
                  refine lv_if_eq (tgt := 103) hx hb dX1_refusal_96 (by decide) (fun c_14 => ?_) (fun c_14 => ?_)
                  · skip
                    refine lv_bipush (v := 22) hx hb dX1_refusal_103 (by decide) ?_
                    exact cf_roEnd hx hb hr hlocks (by simp only [mf_ref, mf_ref2, cf_ofT, if_neg c_1, if_neg c_7, if_neg c_8, if_pos c_9, if_neg c_10, if_pos c_11, if_neg c_12, if_neg c_13, if_pos c_14, if_neg cf_n10, if_pos cf_p00, ↓reduceIte]) dX1_refusal_105
                  · skip
                    exact absurd c_11 c_14
                · skip
                  refine lv_iload_n hx hb dX1_refusal_64 rfl (lv_at hl 2 rfl) ?_
                  refine lv_bipush (v := 8) hx hb dX1_refusal_65 (by decide) ?_
                  refine lv_icmp_gt (tgt := 91) hx hb dX1_refusal_67 (by decide) (fun c_15 => ?_) (fun c_15 => ?_)
                  · skip
                    refine lv_iconst (v := 0) hx hb dX1_refusal_91 (by decide) ?_
                    refine lv_istore (lv' := [(4, .int 0), (3, .int 0), (0, .ref h0), (1, .int x), (2, .int w)]) hx hb dX1_refusal_92 hl (by decide) rfl (fun ls hl => ?_)
                    refine lv_iload hx hb dX1_refusal_94 (lv_at hl 0 rfl) ?_
                    refine lv_if_eq (tgt := 103) hx hb dX1_refusal_96 (by decide) (fun c_16 => ?_) (fun c_16 => ?_)
                    · skip
                      refine lv_bipush (v := 22) hx hb dX1_refusal_103 (by decide) ?_
                      exact cf_roEnd hx hb hr hlocks (by simp only [mf_ref, mf_ref2, cf_ofT, if_neg c_1, if_neg c_7, if_neg c_8, if_pos c_9, if_neg c_10, if_pos c_11, if_neg c_12, if_pos c_13, if_pos c_15, if_pos c_16, if_neg cf_n10, if_pos cf_p00, ↓reduceIte]) dX1_refusal_105
                    · skip
                      exact absurd c_11 c_16
                  · skip
                    refine lv_iload_n hx hb dX1_refusal_70 rfl (lv_at hl 2 rfl) ?_
                    refine lv_bipush (v := 8) hx hb dX1_refusal_71 (by decide) ?_
                    refine lv_icmp_ne (tgt := 87) hx hb dX1_refusal_73 (by decide) (fun c_17 => ?_) (fun c_17 => ?_)
                    · skip
                      refine lv_iconst (v := 1) hx hb dX1_refusal_87 (by decide) ?_
                      refine lv_goto (tgt := 92) hx hb dX1_refusal_88 (by decide) ?_
                      refine lv_istore (lv' := [(4, .int 1), (3, .int 0), (0, .ref h0), (1, .int x), (2, .int w)]) hx hb dX1_refusal_92 hl (by decide) rfl (fun ls hl => ?_)
                      refine lv_iload hx hb dX1_refusal_94 (lv_at hl 0 rfl) ?_
                      refine lv_if_eq (tgt := 103) hx hb dX1_refusal_96 (by decide) (fun c_18 => ?_) (fun c_18 => ?_)
                      · skip
                        exact absurd c_18 (by decide)
                      · skip
                        refine lv_iconst (v := 0) hx hb dX1_refusal_99 (by decide) ?_
                        refine lv_goto (tgt := 105) hx hb dX1_refusal_100 (by decide) ?_
                        exact cf_roEnd hx hb hr hlocks (by simp only [mf_ref, mf_ref2, cf_ofT, if_neg c_1, if_neg c_7, if_neg c_8, if_pos c_9, if_neg c_10, if_pos c_11, if_neg c_12, if_pos c_13, if_neg c_15, if_neg c_17, if_neg c_18, if_neg cf_n10, if_pos cf_p00, ↓reduceIte]) dX1_refusal_105
                    · skip
                      refine lv_aload_n hx hb dX1_refusal_76 rfl (lv_at hl 1 rfl) ?_
                      refine lv_bipush (v := 18) hx hb dX1_refusal_77 (by decide) ?_
                      refine lv_bipush (v := 20) hx hb dX1_refusal_79 (by decide) ?_
                      refine cf_callV (As := [.int 18, .int 20]) (rest := []) ⟨hx, hb, hml, hown, hts⟩ (m_has l D z h0 h1 cA k md tm al ln od 18 20 18 (by decide) rfl) (cwV 2 hts gX1_refusal_X1_has rfl rfl rfl (by decide +kernel) ⟨Nat.le_of_ble_eq_true rfl, Nat.le_of_ble_eq_true rfl⟩) hP hK hZ hS (ci := 1) (q0 := 0) rfl rfl rfl rfl hl.1 rfl (Nat.le_of_ble_eq_true rfl) dX1_refusal_81 ⟨Nat.zero_le _, Nat.zero_le _⟩ ?_
                      refine lv_if_ne (tgt := 91) hx hb dX1_refusal_84 (by decide) (fun c_19 => ?_) (fun c_19 => ?_)
                      · skip
                        refine lv_iconst (v := 0) hx hb dX1_refusal_91 (by decide) ?_
                        refine lv_istore (lv' := [(4, .int 0), (3, .int 0), (0, .ref h0), (1, .int x), (2, .int w)]) hx hb dX1_refusal_92 hl (by decide) rfl (fun ls hl => ?_)
                        refine lv_iload hx hb dX1_refusal_94 (lv_at hl 0 rfl) ?_
                        refine lv_if_eq (tgt := 103) hx hb dX1_refusal_96 (by decide) (fun c_20 => ?_) (fun c_20 => ?_)
                        · skip
                          refine lv_bipush (v := 22) hx hb dX1_refusal_103 (by decide) ?_
                          exact cf_roEnd hx hb hr hlocks (by simp only [mf_ref, mf_ref2, cf_ofT, if_neg c_1, if_neg c_7, if_neg c_8, if_pos c_9, if_neg c_10, if_pos c_11, if_neg c_12, if_pos c_13, if_neg c_15, if_pos c_17, if_neg c_19, if_pos c_20, if_neg cf_n10, if_pos cf_p00, ↓reduceIte]) dX1_refusal_105
                        · skip
                          exact absurd c_11 c_20
                      · skip
                        refine lv_iconst (v := 1) hx hb dX1_refusal_87 (by decide) ?_
                        refine lv_goto (tgt := 92) hx hb dX1_refusal_88 (by decide) ?_
                        refine lv_istore (lv' := [(4, .int 1), (3, .int 0), (0, .ref h0), (1, .int x), (2, .int w)]) hx hb dX1_refusal_92 hl (by decide) rfl (fun ls hl => ?_)
                        refine lv_iload hx hb dX1_refusal_94 (lv_at hl 0 rfl) ?_
                        refine lv_if_eq (tgt := 103) hx hb dX1_refusal_96 (by decide) (fun c_21 => ?_) (fun c_21 => ?_)
                        · skip
                          exact absurd c_21 (by decide)
                        · skip
                          refine lv_iconst (v := 0) hx hb dX1_refusal_99 (by decide) ?_
                          refine lv_goto (tgt := 105) hx hb dX1_refusal_100 (by decide) ?_
                          exact cf_roEnd hx hb hr hlocks (by simp only [mf_ref, mf_ref2, cf_ofT, if_neg c_1, if_neg c_7, if_neg c_8, if_pos c_9, if_neg c_10, if_pos c_11, if_neg c_12, if_pos c_13, if_neg c_15, if_pos c_17, if_pos c_19, if_neg c_21, if_neg cf_n10, if_pos cf_p00, ↓reduceIte]) dX1_refusal_105
              · skip
                refine lv_iconst (v := 2) hx hb dX1_refusal_54 (by decide) ?_
                exact cf_roEnd hx hb hr hlocks (by simp only [mf_ref, mf_ref2, cf_ofT, if_neg c_1, if_neg c_7, if_neg c_8, if_pos c_9, if_neg c_10, if_pos c_11, if_pos c_12, if_neg cf_n10, if_pos cf_p00, ↓reduceIte]) dX1_refusal_55
            · skip
              exact absurd c_9 c_11
        · skip
          exact absurd (by decide) c_9
    · skip
      refine lv_iconst (v := 1) hx hb dX1_refusal_12 (by decide) ?_
      refine lv_goto (tgt := 17) hx hb dX1_refusal_13 (by decide) ?_
      refine lv_istore_n (lv' := [(3, .int 1), (0, .ref h0), (1, .int x), (2, .int w)]) hx hb dX1_refusal_17 rfl hl (by decide) rfl (fun ls hl => ?_)
      refine lv_iload_n hx hb dX1_refusal_18 rfl (lv_at hl 2 rfl) ?_
      refine lv_iconst (v := -1) hx hb dX1_refusal_19 (by decide) ?_
      refine lv_icmp_eq (tgt := 31) hx hb dX1_refusal_20 (by decide) (fun c_22 => ?_) (fun c_22 => ?_)
      · skip
        refine lv_iconst (v := 2) hx hb dX1_refusal_31 (by decide) ?_
        exact cf_roEnd hx hb hr hlocks (by simp only [mf_ref, mf_ref2, cf_ofT, if_neg c_1, if_pos c_7, if_pos c_22, if_neg cf_n10, if_pos cf_p00, ↓reduceIte]) dX1_refusal_32
      · skip
        refine lv_iload_n hx hb dX1_refusal_23 rfl (lv_at hl 0 rfl) ?_
        refine lv_if_eq (tgt := 33) hx hb dX1_refusal_24 (by decide) (fun c_23 => ?_) (fun c_23 => ?_)
        · skip
          exact absurd c_23 (by decide)
        · skip
          refine lv_iload_n hx hb dX1_refusal_27 rfl (lv_at hl 3 rfl) ?_
          refine lv_if_eq (tgt := 33) hx hb dX1_refusal_28 (by decide) (fun c_24 => ?_) (fun c_24 => ?_)
          · skip
            refine lv_aload_n hx hb dX1_refusal_33 rfl (lv_at hl 1 rfl) ?_
            refine va_get (D := D) (ci := 1) (v := .int md) (C := RX1) (T := TX1) (N := 6) hx hb hts hin0 hown hK hP 0 rfl rfl 1 (by decide) (hts (.fieldLink RX1 16 "ControlFileModel" "mode" "I") (by decide +kernel)) (fun _ h9 => h9) rfl dX1_refusal_34 ?_
            refine lv_iconst (v := 1) hx hb dX1_refusal_37 (by decide) ?_
            refine lv_icmp_eq (tgt := 45) hx hb dX1_refusal_38 (by decide) (fun c_25 => ?_) (fun c_25 => ?_)
            · skip
              refine lv_iconst (v := 0) hx hb dX1_refusal_45 (by decide) ?_
              exact cf_roEnd hx hb hr hlocks (by simp only [mf_ref, mf_ref2, cf_ofT, if_neg c_1, if_pos c_7, if_neg c_22, if_neg c_23, if_pos c_24, if_pos c_25, if_neg cf_n10, if_pos cf_p00, ↓reduceIte]) dX1_refusal_46
            · skip
              refine lv_iload_n hx hb dX1_refusal_41 rfl (lv_at hl 0 rfl) ?_
              refine lv_if_eq (tgt := 47) hx hb dX1_refusal_42 (by decide) (fun c_26 => ?_) (fun c_26 => ?_)
              · skip
                exact absurd c_26 c_23
              · skip
                refine lv_iconst (v := 0) hx hb dX1_refusal_45 (by decide) ?_
                exact cf_roEnd hx hb hr hlocks (by simp only [mf_ref, mf_ref2, cf_ofT, if_neg c_1, if_pos c_7, if_neg c_22, if_neg c_23, if_pos c_24, if_neg c_25, if_neg c_26, if_neg cf_n10, if_pos cf_p00, ↓reduceIte]) dX1_refusal_46
          · skip
            refine lv_iconst (v := 2) hx hb dX1_refusal_31 (by decide) ?_
            exact cf_roEnd hx hb hr hlocks (by simp only [mf_ref, mf_ref2, cf_ofT, if_neg c_1, if_pos c_7, if_neg c_22, if_neg c_23, if_neg c_24, if_neg cf_n10, if_pos cf_p00, ↓reduceIte]) dX1_refusal_32
set_option maxHeartbeats 4000000 in
set_option maxRecDepth 100000 in
theorem m_old (l : Launch) (D : va_G) (z : Nat → Nat) (h0 h1 : Nat) (cA : ClassId) (k : Nat → Int32) (md : Int32) (tm al : Int64) (ln od : Int32) : Met l yX1_old wsX1_old ({ frames := 0, cells := 0, slots := 0, locals := 0 } : Room) (cf_ro [.ref h0] D (cf_W 1 h0 h1 cA k md tm al ln od) [(cA, .int)] z) (vp_Si (fun r => r = od)) 0 0 (fun _ => False) := by
  refine Met.ofW (cc := cX1_old) (maxL := 1) (ret := (some .int)) (by decide) rfl ?_
  intro p e s m args below meth c s₁ B hml hv
  obtain ⟨rfl, hP, hK, hZ⟩ := hv
  have hx := B.exec
  have hb := B.bytes
  have hr := B.returns
  have hts := atoms_spec (ws := wsX1_old) B.pre
  have hown : s.vm.findClass RX1 = some m.cls := findClass_of_methodNamed B.named
  have hlocks := B.notSynchronized
  have hin0 : ∀ w ∈ wsX10, w ∈ wsX1_old := by decide +kernel
  have hS : va_S (fun _ => False) s.heap s.heap [] := va_S.rf
  have hl := lv_entry ([.ref h0]) (n := 1) (Nat.le_of_ble_eq_true rfl)
  rw [lg_entry_eq]
  generalize (lg_sl ([.ref h0]) ++ List.replicate (1 - (lg_sl ([.ref h0])).length) Slot.unset).toArray = ls at hl ⊢
  have hl : lv_has ls 1 [(0, .ref h0)] := hl
  refine lv_aload_n hx hb dX1_old_0 rfl (lv_at hl 0 rfl) ?_
  refine va_get (D := D) (ci := 1) (v := .int od) (C := RX1) (T := TX1) (N := 6) hx hb hts hin0 hown hK hP 0 rfl rfl 5 (by decide) (hts (.fieldLink RX1 33 "ControlFileModel" "old" "I") (by decide +kernel)) (fun _ h9 => h9) rfl dX1_old_1 ?_
  exact cf_roEnd hx hb hr hlocks (rfl) dX1_old_4
set_option maxHeartbeats 4000000 in
set_option maxRecDepth 100000 in
theorem m_control (l : Launch) (D : va_G) (z : Nat → Nat) (h0 h1 : Nat) (cA : ClassId) (k : Nat → Int32) (md : Int32) (tm al : Int64) (ln od : Int32) (n : Int32) : Met l yX1_control wsX1_control ({ frames := 2, cells := 0, slots := 0, locals := 42 } : Room) (cf_ro [.ref h0, .int n] D (cf_W 1 h0 h1 cA k md tm al ln od) [(cA, .int)] z) (vp_Si (fun r => r = mf_ctl k tm al ln n)) 0 0 (fun _ => False) := by
  refine Met.ofW (cc := cX1_control) (maxL := 3) (ret := (some .int)) (by decide) rfl ?_
  intro p e s m args below meth c s₁ B hml hv
  obtain ⟨rfl, hP, hK, hZ⟩ := hv
  have hx := B.exec
  have hb := B.bytes
  have hr := B.returns
  have hts := atoms_spec (ws := wsX1_control) B.pre
  have hown : s.vm.findClass RX1 = some m.cls := findClass_of_methodNamed B.named
  have hlocks := B.notSynchronized
  have hS : va_S (fun _ => False) s.heap s.heap [] := va_S.rf
  have hl := lv_entry ([.ref h0, .int n]) (n := 3) (Nat.le_of_ble_eq_true rfl)
  rw [lg_entry_eq]
  generalize (lg_sl ([.ref h0, .int n]) ++ List.replicate (3 - (lg_sl ([.ref h0, .int n])).length) Slot.unset).toArray = ls at hl ⊢
  have hl : lv_has ls 3 [(0, .ref h0), (1, .int n)] := hl
  refine lv_iload_n hx hb dX1_control_0 rfl (lv_at hl 1 rfl) ?_
  refine cf_callS (As := [.int n]) (rest := []) ⟨hx, hb, hml, hown, hts⟩ (m_placeOf l D z n) (va_cwS 1 hts gX1_control_X1_placeOf rfl rfl rfl (by decide +kernel) ⟨Nat.le_of_ble_eq_true rfl, Nat.le_of_ble_eq_true rfl⟩) (hP.sub (ws' := []) [] rfl) (hK.sub (tys' := []) [] rfl) hZ hS rfl hl.1 rfl (Nat.le_of_ble_eq_true rfl) dX1_control_1 ⟨Nat.zero_le _, Nat.zero_le _⟩ ?_
  refine lv_istore_n (lv' := [(2, .int (mf_place n)), (0, .ref h0), (1, .int n)]) hx hb dX1_control_4 rfl hl (by decide) rfl (fun ls hl => ?_)
  refine lv_iload_n hx hb dX1_control_5 rfl (lv_at hl 0 rfl) ?_
  refine lv_iconst (v := -1) hx hb dX1_control_6 (by decide) ?_
  refine lv_icmp_ne (tgt := 14) hx hb dX1_control_7 (by decide) (fun c_1 => ?_) (fun c_1 => ?_)
  · skip
    have hin1 : vp_in (mf_place n) 29 := mf_in0 c_1
    refine lv_aload_n hx hb dX1_control_14 rfl (lv_at hl 1 rfl) ?_
    refine lv_iload_n hx hb dX1_control_15 rfl (lv_at hl 0 rfl) ?_
    refine cf_callV (As := [.int (mf_place n)]) (rest := []) ⟨hx, hb, hml, hown, hts⟩ (m_tells l D z h0 h1 cA k md tm al ln od (mf_place n) hin1) (cwV 1 hts gX1_control_X1_tells rfl rfl rfl (by decide +kernel) ⟨Nat.le_of_ble_eq_true rfl, Nat.le_of_ble_eq_true rfl⟩) hP hK hZ hS (ci := 1) (q0 := 0) rfl rfl rfl rfl hl.1 rfl (Nat.le_of_ble_eq_true rfl) dX1_control_16 ⟨Nat.zero_le _, Nat.zero_le _⟩ ?_
    exact cf_roEnd hx hb hr hlocks (by simp only [mf_ctl, if_neg c_1, if_neg cf_n10, if_pos cf_p00, ↓reduceIte]) dX1_control_19
  · skip
    refine lv_iconst (v := 0) hx hb dX1_control_10 (by decide) ?_
    refine lv_goto (tgt := 19) hx hb dX1_control_11 (by decide) ?_
    exact cf_roEnd hx hb hr hlocks (by simp only [mf_ctl, if_pos c_1, if_neg cf_n10, if_pos cf_p00, ↓reduceIte]) dX1_control_19
set_option maxHeartbeats 4000000 in
set_option maxRecDepth 100000 in
theorem m_used (l : Launch) (D : va_G) (z : Nat → Nat) (h0 h1 : Nat) (cA : ClassId) (k : Nat → Int32) (md : Int32) (tm al : Int64) (ln od : Int32) : Met l yX1_used wsX1_used ({ frames := 1, cells := 0, slots := 0, locals := 21 } : Room) (cf_ro [.ref h0] D (cf_W 1 h0 h1 cA k md tm al ln od) [(cA, .int)] z) (vp_Si (fun r => r = mf_used k tm al ln)) 0 0 (fun _ => False) := by
  refine Met.ofW (cc := cX1_used) (maxL := 3) (ret := (some .int)) (by decide) rfl ?_
  intro p e s m args below meth c s₁ B hml hv
  obtain ⟨rfl, hP, hK, hZ⟩ := hv
  have hx := B.exec
  have hb := B.bytes
  have hr := B.returns
  have hts := atoms_spec (ws := wsX1_used) B.pre
  have hown : s.vm.findClass RX1 = some m.cls := findClass_of_methodNamed B.named
  have hlocks := B.notSynchronized
  have hS : va_S (fun _ => False) s.heap s.heap [] := va_S.rf
  have hl := lv_entry ([.ref h0]) (n := 3) (Nat.le_of_ble_eq_true rfl)
  rw [lg_entry_eq]
  generalize (lg_sl ([.ref h0]) ++ List.replicate (3 - (lg_sl ([.ref h0])).length) Slot.unset).toArray = ls at hl ⊢
  have hl : lv_has ls 3 [(0, .ref h0)] := hl
  refine lv_iconst (v := 0) hx hb dX1_used_0 (by decide) ?_
  refine lv_istore_n (lv' := [(1, .int 0), (0, .ref h0)]) hx hb dX1_used_1 rfl hl (by decide) rfl (fun ls hl => ?_)
  refine lv_iconst (v := 0) hx hb dX1_used_2 (by decide) ?_
  refine lv_istore_n (lv' := [(2, .int 0), (1, .int 0), (0, .ref h0)]) hx hb dX1_used_3 rfl hl (by decide) rfl (fun ls hl => ?_)
  refine cf_ind (G := W p l e _ s m _ below meth c s.heap [] 0 0 _) 29 (fun i ls => lv_has ls 3 [(2, .int (nI i)), (1, .int (mf_cnt (mf_tf k tm al ln) i)), (0, .ref h0)]) ?_ ?_ 29 0 ls rfl (by omega) hl
  · intro i ls hi hl ih
    have hl : lv_has ls 3 [(2, .int (nI i)), (1, .int (mf_cnt (mf_tf k tm al ln) i)), (0, .ref h0)] := hl
    refine lv_iload_n hx hb dX1_used_4 rfl (lv_at hl 0 rfl) ?_
    refine lv_bipush (v := 29) hx hb dX1_used_5 (by decide) ?_
    refine lv_icmp_ge (tgt := 32) hx hb dX1_used_7 (by decide) (fun c_1 => ?_) (fun c_1 => ?_)
    · skip
      exact absurd c_1 (show ¬ (29 : Int32) ≤ nI i from nI_ge hi (by decide))
    · skip
      refine lv_iload_n hx hb dX1_used_10 rfl (lv_at hl 1 rfl) ?_
      refine lv_aload_n hx hb dX1_used_11 rfl (lv_at hl 2 rfl) ?_
      refine lv_iload_n hx hb dX1_used_12 rfl (lv_at hl 0 rfl) ?_
      refine cf_callV (As := [.int (nI i)]) (rest := [.int (mf_cnt (mf_tf k tm al ln) i)]) ⟨hx, hb, hml, hown, hts⟩ (m_tells l D z h0 h1 cA k md tm al ln od (nI i) (vp_in_nI hi (by omega))) (cwV 1 hts gX1_used_X1_tells rfl rfl rfl (by decide +kernel) ⟨Nat.le_of_ble_eq_true rfl, Nat.le_of_ble_eq_true rfl⟩) hP hK hZ hS (ci := 1) (q0 := 0) rfl rfl rfl rfl hl.1 rfl (Nat.le_of_ble_eq_true rfl) dX1_used_13 ⟨Nat.zero_le _, Nat.zero_le _⟩ ?_
      refine lv_if_eq (tgt := 23) hx hb dX1_used_16 (by decide) (fun c_2 => ?_) (fun c_2 => ?_)
      · skip
        refine lv_iconst (v := 0) hx hb dX1_used_23 (by decide) ?_
        refine lv_iadd hx hb dX1_used_24 ?_
        refine lv_istore_n (lv' := [(1, .int ((mf_cnt (mf_tf k tm al ln) i) + 0)), (2, .int (nI i)), (0, .ref h0)]) hx hb dX1_used_25 rfl hl (by decide) rfl (fun ls hl => ?_)
        refine lv_iinc (v := nI (i + 1)) (lv' := [(2, .int (nI (i + 1))), (1, .int ((mf_cnt (mf_tf k tm al ln) i) + 0)), (0, .ref h0)]) hx hb dX1_used_26 hl (k := 1) rfl (nI_1 i) (by decide) rfl (fun ls hl => ?_)
        refine lv_goto (tgt := 4) hx hb dX1_used_29 (by decide) ?_
        refine ih ls ?_
        show lv_has ls 3 [(2, .int (nI (i + 1))), (1, .int (mf_cnt (mf_tf k tm al ln) (i + 1))), (0, .ref h0)]
        rw [mf_cnt, if_pos (show mf_tf k tm al ln i = 0 from c_2)]
        exact lv_sub hl [0, 1, 2] rfl
      · skip
        refine lv_iconst (v := 1) hx hb dX1_used_19 (by decide) ?_
        refine lv_goto (tgt := 24) hx hb dX1_used_20 (by decide) ?_
        refine lv_iadd hx hb dX1_used_24 ?_
        refine lv_istore_n (lv' := [(1, .int ((mf_cnt (mf_tf k tm al ln) i) + 1)), (2, .int (nI i)), (0, .ref h0)]) hx hb dX1_used_25 rfl hl (by decide) rfl (fun ls hl => ?_)
        refine lv_iinc (v := nI (i + 1)) (lv' := [(2, .int (nI (i + 1))), (1, .int ((mf_cnt (mf_tf k tm al ln) i) + 1)), (0, .ref h0)]) hx hb dX1_used_26 hl (k := 1) rfl (nI_1 i) (by decide) rfl (fun ls hl => ?_)
        refine lv_goto (tgt := 4) hx hb dX1_used_29 (by decide) ?_
        refine ih ls ?_
        show lv_has ls 3 [(2, .int (nI (i + 1))), (1, .int (mf_cnt (mf_tf k tm al ln) (i + 1))), (0, .ref h0)]
        rw [mf_cnt, if_neg (show ¬ (mf_tf k tm al ln i = 0) from c_2)]
        exact lv_sub hl [0, 1, 2] rfl
  · intro ls hl
    have hl : lv_has ls 3 [(2, .int (nI 29)), (1, .int (mf_cnt (mf_tf k tm al ln) 29)), (0, .ref h0)] := hl
    refine lv_iload_n hx hb dX1_used_4 rfl (lv_at hl 0 rfl) ?_
    refine lv_bipush (v := 29) hx hb dX1_used_5 (by decide) ?_
    refine lv_icmp_ge (tgt := 32) hx hb dX1_used_7 (by decide) (fun c_3 => ?_) (fun c_3 => ?_)
    · skip
      refine lv_iload_n hx hb dX1_used_32 rfl (lv_at hl 1 rfl) ?_
      exact cf_roEnd hx hb hr hlocks rfl dX1_used_33
    · skip
      exact absurd (show (29 : Int32) ≤ nI 29 by decide) c_3
set_option maxHeartbeats 4000000 in
set_option maxRecDepth 100000 in
theorem m_due (l : Launch) (D : va_G) (z : Nat → Nat) (h0 h1 : Nat) (cA : ClassId) (k : Nat → Int32) (md : Int32) (tm al : Int64) (ln od : Int32) : Met l yX1_due wsX1_due ({ frames := 1, cells := 0, slots := 0, locals := 23 } : Room) (cf_ro [.ref h0] D (cf_W 1 h0 h1 cA k md tm al ln od) [(cA, .int)] z) (vp_Si (fun r => r = mf_due k md tm al ln)) 0 0 (fun _ => False) := by
  refine Met.ofW (cc := cX1_due) (maxL := 6) (ret := (some .int)) (by decide) rfl ?_
  intro p e s m args below meth c s₁ B hml hv
  obtain ⟨rfl, hP, hK, hZ⟩ := hv
  have hx := B.exec
  have hb := B.bytes
  have hr := B.returns
  have hts := atoms_spec (ws := wsX1_due) B.pre
  have hown : s.vm.findClass RX1 = some m.cls := findClass_of_methodNamed B.named
  have hlocks := B.notSynchronized
  have hin0 : ∀ w ∈ wsX10, w ∈ wsX1_due := by decide +kernel
  have hS : va_S (fun _ => False) s.heap s.heap [] := va_S.rf
  have hl := lv_entry ([.ref h0]) (n := 6) (Nat.le_of_ble_eq_true rfl)
  rw [lg_entry_eq]
  generalize (lg_sl ([.ref h0]) ++ List.replicate (6 - (lg_sl ([.ref h0])).length) Slot.unset).toArray = ls at hl ⊢
  have hl : lv_has ls 6 [(0, .ref h0)] := hl
  refine lv_aload_n hx hb dX1_due_0 rfl (lv_at hl 0 rfl) ?_
  refine lv_bipush (v := 7) hx hb dX1_due_1 (by decide) ?_
  refine cf_callV (As := [.int 7]) (rest := []) ⟨hx, hb, hml, hown, hts⟩ (m_tells l D z h0 h1 cA k md tm al ln od 7 (show vp_in (7 : Int32) 29 from vp_in_nI (n := 7) (by decide) (by decide))) (cwV 1 hts gX1_due_X1_tells rfl rfl rfl (by decide +kernel) ⟨Nat.le_of_ble_eq_true rfl, Nat.le_of_ble_eq_true rfl⟩) hP hK hZ hS (ci := 1) (q0 := 0) rfl rfl rfl rfl hl.1 rfl (Nat.le_of_ble_eq_true rfl) dX1_due_3 ⟨Nat.zero_le _, Nat.zero_le _⟩ ?_
  refine lv_aload_n hx hb dX1_due_6 rfl (lv_at hl 0 rfl) ?_
  refine va_get (D := D) (ci := 1) (v := .ref h1) (C := RX1) (T := TX1) (N := 6) hx hb hts hin0 hown hK hP 0 rfl rfl 0 (by decide) (hts (.fieldLink RX1 7 "ControlFileModel" "kept" "[I") (by decide +kernel)) (fun _ h9 => h9) rfl dX1_due_7 ?_
  refine lv_iconst (v := 1) hx hb dX1_due_10 (by decide) ?_
  refine cf_ld 1 hx hb hK hP 1 0 rfl rfl rfl (by decide) dX1_due_11 ?_
  refine lv_iand hx hb dX1_due_12 ?_
  refine lv_bipush (v := 9) hx hb dX1_due_13 (by decide) ?_
  refine lv_iconst (v := 1) hx hb dX1_due_15 (by decide) ?_
  refine lv_iconst (v := 5) hx hb dX1_due_16 (by decide) ?_
  refine cf_callS (As := [.int ((mf_tell k tm al ln 7) &&& (k 1)), .int 9, .int 1, .int 5]) (rest := []) ⟨hx, hb, hml, hown, hts⟩ (m_firstOf l D z ((mf_tell k tm al ln 7) &&& (k 1)) 9 1 5) (va_cwS 4 hts gX1_due_X1_firstOf rfl rfl rfl (by decide +kernel) ⟨Nat.le_of_ble_eq_true rfl, Nat.le_of_ble_eq_true rfl⟩) (hP.sub (ws' := []) [] rfl) (hK.sub (tys' := []) [] rfl) hZ hS rfl hl.1 rfl (Nat.le_of_ble_eq_true rfl) dX1_due_17 ⟨Nat.zero_le _, Nat.zero_le _⟩ ?_
  refine lv_istore_n (lv' := [(1, .int (mf_fst ((mf_tell k tm al ln 7) &&& (k 1)) 9 1 5)), (0, .ref h0)]) hx hb dX1_due_20 rfl hl (by decide) rfl (fun ls hl => ?_)
  refine lv_aload_n hx hb dX1_due_21 rfl (lv_at hl 1 rfl) ?_
  refine va_get (D := D) (ci := 1) (v := .ref h1) (C := RX1) (T := TX1) (N := 6) hx hb hts hin0 hown hK hP 0 rfl rfl 0 (by decide) (hts (.fieldLink RX1 7 "ControlFileModel" "kept" "[I") (by decide +kernel)) (fun _ h9 => h9) rfl dX1_due_22 ?_
  refine lv_bipush (v := 24) hx hb dX1_due_25 (by decide) ?_
  refine cf_ld 24 hx hb hK hP 1 0 rfl rfl rfl (by decide) dX1_due_27 ?_
  refine lv_aload_n hx hb dX1_due_28 rfl (lv_at hl 1 rfl) ?_
  refine va_get (D := D) (ci := 1) (v := .ref h1) (C := RX1) (T := TX1) (N := 6) hx hb hts hin0 hown hK hP 0 rfl rfl 0 (by decide) (hts (.fieldLink RX1 7 "ControlFileModel" "kept" "[I") (by decide +kernel)) (fun _ h9 => h9) rfl dX1_due_29 ?_
  refine lv_bipush (v := 21) hx hb dX1_due_32 (by decide) ?_
  refine cf_ld 21 hx hb hK hP 1 0 rfl rfl rfl (by decide) dX1_due_34 ?_
  refine lv_iand hx hb dX1_due_35 ?_
  refine lv_aload_n hx hb dX1_due_36 rfl (lv_at hl 1 rfl) ?_
  refine va_get (D := D) (ci := 1) (v := .ref h1) (C := RX1) (T := TX1) (N := 6) hx hb hts hin0 hown hK hP 0 rfl rfl 0 (by decide) (hts (.fieldLink RX1 7 "ControlFileModel" "kept" "[I") (by decide +kernel)) (fun _ h9 => h9) rfl dX1_due_37 ?_
  refine lv_bipush (v := 20) hx hb dX1_due_40 (by decide) ?_
  refine cf_ld 20 hx hb hK hP 1 0 rfl rfl rfl (by decide) dX1_due_42 ?_
  refine lv_iconst (v := -1) hx hb dX1_due_43 (by decide) ?_
  refine lv_ixor hx hb dX1_due_44 ?_
  refine lv_iand hx hb dX1_due_45 ?_
  refine lv_bipush (v := 10) hx hb dX1_due_46 (by decide) ?_
  refine lv_iconst (v := 2) hx hb dX1_due_48 (by decide) ?_
  refine lv_bipush (v := 6) hx hb dX1_due_49 (by decide) ?_
  refine cf_callS (As := [.int (((k 24) &&& (k 21)) &&& ((k 20) ^^^ (-1))), .int 10, .int 2, .int 6]) (rest := []) ⟨hx, hb, hml, hown, hts⟩ (m_firstOf l D z (((k 24) &&& (k 21)) &&& ((k 20) ^^^ (-1))) 10 2 6) (va_cwS 4 hts gX1_due_X1_firstOf rfl rfl rfl (by decide +kernel) ⟨Nat.le_of_ble_eq_true rfl, Nat.le_of_ble_eq_true rfl⟩) (hP.sub (ws' := []) [] rfl) (hK.sub (tys' := []) [] rfl) hZ hS rfl hl.1 rfl (Nat.le_of_ble_eq_true rfl) dX1_due_51 ⟨Nat.zero_le _, Nat.zero_le _⟩ ?_
  refine lv_istore_n (lv' := [(2, .int (mf_fst (((k 24) &&& (k 21)) &&& ((k 20) ^^^ (-1))) 10 2 6)), (1, .int (mf_fst ((mf_tell k tm al ln 7) &&& (k 1)) 9 1 5)), (0, .ref h0)]) hx hb dX1_due_54 rfl hl (by decide) rfl (fun ls hl => ?_)
  refine lv_aload_n hx hb dX1_due_55 rfl (lv_at hl 2 rfl) ?_
  refine va_get (D := D) (ci := 1) (v := .int md) (C := RX1) (T := TX1) (N := 6) hx hb hts hin0 hown hK hP 0 rfl rfl 1 (by decide) (hts (.fieldLink RX1 16 "ControlFileModel" "mode" "I") (by decide +kernel)) (fun _ h9 => h9) rfl dX1_due_56 ?_
  refine lv_iconst (v := 1) hx hb dX1_due_59 (by decide) ?_
  refine lv_icmp_ne (tgt := 72) hx hb dX1_due_60 (by decide) (fun c_1 => ?_) (fun c_1 => ?_)
  · skip
    refine lv_iconst (v := 1) hx hb dX1_due_72 (by decide) ?_
    refine lv_goto (tgt := 77) hx hb dX1_due_73 (by decide) ?_
    refine lv_istore_n (lv' := [(3, .int 1), (2, .int (mf_fst (((k 24) &&& (k 21)) &&& ((k 20) ^^^ (-1))) 10 2 6)), (1, .int (mf_fst ((mf_tell k tm al ln 7) &&& (k 1)) 9 1 5)), (0, .ref h0)]) hx hb dX1_due_77 rfl hl (by decide) rfl (fun ls hl => ?_)
    refine lv_iload_n hx hb dX1_due_78 rfl (lv_at hl 0 rfl) ?_
    refine lv_if_eq (tgt := 103) hx hb dX1_due_79 (by decide) (fun c_2 => ?_) (fun c_2 => ?_)
    · skip
      exact absurd c_2 (by decide)
    · skip
      refine lv_iload_n hx hb dX1_due_82 rfl (lv_at hl 2 rfl) ?_
      refine lv_iconst (v := -1) hx hb dX1_due_83 (by decide) ?_
      refine lv_icmp_ne (tgt := 92) hx hb dX1_due_84 (by decide) (fun c_3 => ?_) (fun c_3 => ?_)
      · skip
        refine lv_iload_n hx hb dX1_due_92 rfl (lv_at hl 2 rfl) ?_
        refine lv_iconst (v := -1) hx hb dX1_due_93 (by decide) ?_
        refine lv_icmp_eq (tgt := 101) hx hb dX1_due_94 (by decide) (fun c_4 => ?_) (fun c_4 => ?_)
        · skip
          exact absurd c_4 c_3
        · skip
          refine lv_iload_n hx hb dX1_due_97 rfl (lv_at hl 2 rfl) ?_
          refine lv_goto (tgt := 102) hx hb dX1_due_98 (by decide) ?_
          exact cf_roEnd hx hb hr hlocks (by show mf_own k tm al ln = mf_due k md tm al ln; simp only [mf_due, mf_dS, mf_dV, mf_dV1, if_neg c_1, if_neg c_2, if_neg (show ¬ ((mf_own k tm al ln) = (-1)) from c_3), if_neg (show ¬ ((mf_own k tm al ln) = (-1)) from c_4), ↓reduceIte]) dX1_due_102
      · skip
        refine lv_iload_n hx hb dX1_due_87 rfl (lv_at hl 1 rfl) ?_
        refine lv_iconst (v := -1) hx hb dX1_due_88 (by decide) ?_
        refine lv_icmp_eq (tgt := 103) hx hb dX1_due_89 (by decide) (fun c_5 => ?_) (fun c_5 => ?_)
        · skip
          refine lv_aload_n hx hb dX1_due_103 rfl (lv_at hl 3 rfl) ?_
          refine va_get (D := D) (ci := 1) (v := .ref h1) (C := RX1) (T := TX1) (N := 6) hx hb hts hin0 hown hK hP 0 rfl rfl 0 (by decide) (hts (.fieldLink RX1 7 "ControlFileModel" "kept" "[I") (by decide +kernel)) (fun _ h9 => h9) rfl dX1_due_104 ?_
          refine lv_bipush (v := 24) hx hb dX1_due_107 (by decide) ?_
          refine cf_ld 24 hx hb hK hP 1 0 rfl rfl rfl (by decide) dX1_due_109 ?_
          refine lv_aload_n hx hb dX1_due_110 rfl (lv_at hl 3 rfl) ?_
          refine va_get (D := D) (ci := 1) (v := .ref h1) (C := RX1) (T := TX1) (N := 6) hx hb hts hin0 hown hK hP 0 rfl rfl 0 (by decide) (hts (.fieldLink RX1 7 "ControlFileModel" "kept" "[I") (by decide +kernel)) (fun _ h9 => h9) rfl dX1_due_111 ?_
          refine lv_bipush (v := 21) hx hb dX1_due_114 (by decide) ?_
          refine cf_ld 21 hx hb hK hP 1 0 rfl rfl rfl (by decide) dX1_due_116 ?_
          refine lv_iand hx hb dX1_due_117 ?_
          refine lv_aload_n hx hb dX1_due_118 rfl (lv_at hl 3 rfl) ?_
          refine va_get (D := D) (ci := 1) (v := .ref h1) (C := RX1) (T := TX1) (N := 6) hx hb hts hin0 hown hK hP 0 rfl rfl 0 (by decide) (hts (.fieldLink RX1 7 "ControlFileModel" "kept" "[I") (by decide +kernel)) (fun _ h9 => h9) rfl dX1_due_119 ?_
          refine lv_bipush (v := 20) hx hb dX1_due_122 (by decide) ?_
          refine cf_ld 20 hx hb hK hP 1 0 rfl rfl rfl (by decide) dX1_due_124 ?_
          refine lv_iand hx hb dX1_due_125 ?_
          refine lv_bipush (v := 10) hx hb dX1_due_126 (by decide) ?_
          refine lv_iconst (v := 2) hx hb dX1_due_128 (by decide) ?_
          refine lv_bipush (v := 6) hx hb dX1_due_129 (by decide) ?_
          refine cf_callS (As := [.int (((k 24) &&& (k 21)) &&& (k 20)), .int 10, .int 2, .int 6]) (rest := []) ⟨hx, hb, hml, hown, hts⟩ (m_firstOf l D z (((k 24) &&& (k 21)) &&& (k 20)) 10 2 6) (va_cwS 4 hts gX1_due_X1_firstOf rfl rfl rfl (by decide +kernel) ⟨Nat.le_of_ble_eq_true rfl, Nat.le_of_ble_eq_true rfl⟩) (hP.sub (ws' := []) [] rfl) (hK.sub (tys' := []) [] rfl) hZ hS rfl hl.1 rfl (Nat.le_of_ble_eq_true rfl) dX1_due_131 ⟨Nat.zero_le _, Nat.zero_le _⟩ ?_
          refine lv_istore (lv' := [(4, .int (mf_fst (((k 24) &&& (k 21)) &&& (k 20)) 10 2 6)), (3, .int 1), (2, .int (mf_fst (((k 24) &&& (k 21)) &&& ((k 20) ^^^ (-1))) 10 2 6)), (1, .int (mf_fst ((mf_tell k tm al ln 7) &&& (k 1)) 9 1 5)), (0, .ref h0)]) hx hb dX1_due_134 hl (by decide) rfl (fun ls hl => ?_)
          refine lv_aload_n hx hb dX1_due_136 rfl (lv_at hl 4 rfl) ?_
          refine va_get (D := D) (ci := 1) (v := .int md) (C := RX1) (T := TX1) (N := 6) hx hb hts hin0 hown hK hP 0 rfl rfl 1 (by decide) (hts (.fieldLink RX1 16 "ControlFileModel" "mode" "I") (by decide +kernel)) (fun _ h9 => h9) rfl dX1_due_137 ?_
          refine lv_iconst (v := 2) hx hb dX1_due_140 (by decide) ?_
          refine lv_icmp_eq (tgt := 162) hx hb dX1_due_141 (by decide) (fun c_6 => ?_) (fun c_6 => ?_)
          · skip
            refine lv_iconst (v := 1) hx hb dX1_due_162 (by decide) ?_
            refine lv_goto (tgt := 167) hx hb dX1_due_163 (by decide) ?_
            refine lv_istore (lv' := [(5, .int 1), (4, .int (mf_fst (((k 24) &&& (k 21)) &&& (k 20)) 10 2 6)), (3, .int 1), (2, .int (mf_fst (((k 24) &&& (k 21)) &&& ((k 20) ^^^ (-1))) 10 2 6)), (1, .int (mf_fst ((mf_tell k tm al ln 7) &&& (k 1)) 9 1 5)), (0, .ref h0)]) hx hb dX1_due_167 hl (by decide) rfl (fun ls hl => ?_)
            refine lv_iload hx hb dX1_due_169 (lv_at hl 0 rfl) ?_
            refine lv_if_eq (tgt := 190) hx hb dX1_due_171 (by decide) (fun c_7 => ?_) (fun c_7 => ?_)
            · skip
              exact absurd c_7 c_2
            · skip
              refine lv_iload hx hb dX1_due_174 (lv_at hl 1 rfl) ?_
              refine lv_iconst (v := -1) hx hb dX1_due_176 (by decide) ?_
              refine lv_icmp_eq (tgt := 190) hx hb dX1_due_177 (by decide) (fun c_8 => ?_) (fun c_8 => ?_)
              · skip
                refine lv_iconst (v := -1) hx hb dX1_due_190 (by decide) ?_
                exact cf_roEnd hx hb hr hlocks (by show -1 = mf_due k md tm al ln; simp only [mf_due, mf_dS, mf_dV, mf_dV1, if_neg c_1, if_neg c_2, if_pos (show (mf_own k tm al ln) = (-1) from c_3), if_pos (show (mf_hy k) = (-1) from c_5), if_pos c_6, if_neg c_7, if_pos (show (mf_vi k) = (-1) from c_8), ↓reduceIte]) dX1_due_191
              · skip
                refine lv_bipush (v := 100) hx hb dX1_due_180 (by decide) ?_
                refine lv_iload hx hb dX1_due_182 (lv_at hl 1 rfl) ?_
                refine lv_iadd hx hb dX1_due_184 ?_
                refine lv_iconst (v := 1) hx hb dX1_due_185 (by decide) ?_
                refine lv_isub hx hb dX1_due_186 ?_
                refine lv_goto (tgt := 191) hx hb dX1_due_187 (by decide) ?_
                exact cf_roEnd hx hb hr hlocks (by show (100 + (mf_vi k)) - 1 = mf_due k md tm al ln; simp only [mf_due, mf_dS, mf_dV, mf_dV1, if_neg c_1, if_neg c_2, if_pos (show (mf_own k tm al ln) = (-1) from c_3), if_pos (show (mf_hy k) = (-1) from c_5), if_pos c_6, if_neg c_7, if_neg (show ¬ ((mf_vi k) = (-1)) from c_8), ↓reduceIte]) dX1_due_191
          · skip
            refine lv_aload_n hx hb dX1_due_144 rfl (lv_at hl 4 rfl) ?_
            refine va_get (D := D) (ci := 1) (v := .int md) (C := RX1) (T := TX1) (N := 6) hx hb hts hin0 hown hK hP 0 rfl rfl 1 (by decide) (hts (.fieldLink RX1 16 "ControlFileModel" "mode" "I") (by decide +kernel)) (fun _ h9 => h9) rfl dX1_due_145 ?_
            refine lv_iconst (v := 3) hx hb dX1_due_148 (by decide) ?_
            refine lv_icmp_ne (tgt := 166) hx hb dX1_due_149 (by decide) (fun c_9 => ?_) (fun c_9 => ?_)
            · skip
              refine lv_iconst (v := 0) hx hb dX1_due_166 (by decide) ?_
              refine lv_istore (lv' := [(5, .int 0), (4, .int (mf_fst (((k 24) &&& (k 21)) &&& (k 20)) 10 2 6)), (3, .int 1), (2, .int (mf_fst (((k 24) &&& (k 21)) &&& ((k 20) ^^^ (-1))) 10 2 6)), (1, .int (mf_fst ((mf_tell k tm al ln 7) &&& (k 1)) 9 1 5)), (0, .ref h0)]) hx hb dX1_due_167 hl (by decide) rfl (fun ls hl => ?_)
              refine lv_iload hx hb dX1_due_169 (lv_at hl 0 rfl) ?_
              refine lv_if_eq (tgt := 190) hx hb dX1_due_171 (by decide) (fun c_10 => ?_) (fun c_10 => ?_)
              · skip
                refine lv_iconst (v := -1) hx hb dX1_due_190 (by decide) ?_
                exact cf_roEnd hx hb hr hlocks (by show -1 = mf_due k md tm al ln; simp only [mf_due, mf_dS, mf_dV, mf_dV1, if_neg c_1, if_neg c_2, if_pos (show (mf_own k tm al ln) = (-1) from c_3), if_pos (show (mf_hy k) = (-1) from c_5), if_neg c_6, if_neg c_9, if_pos c_10, ↓reduceIte]) dX1_due_191
              · skip
                exact absurd (by decide) c_10
            · skip
              refine lv_aload_n hx hb dX1_due_152 rfl (lv_at hl 4 rfl) ?_
              refine lv_bipush (v := 9) hx hb dX1_due_153 (by decide) ?_
              refine lv_iconst (v := 1) hx hb dX1_due_155 (by decide) ?_
              refine cf_callV (As := [.int 9, .int 1]) (rest := []) ⟨hx, hb, hml, hown, hts⟩ (m_has l D z h0 h1 cA k md tm al ln od 9 1 9 (by decide) rfl) (cwV 2 hts gX1_due_X1_has rfl rfl rfl (by decide +kernel) ⟨Nat.le_of_ble_eq_true rfl, Nat.le_of_ble_eq_true rfl⟩) hP hK hZ hS (ci := 1) (q0 := 0) rfl rfl rfl rfl hl.1 rfl (Nat.le_of_ble_eq_true rfl) dX1_due_156 ⟨Nat.zero_le _, Nat.zero_le _⟩ ?_
              refine lv_if_eq (tgt := 166) hx hb dX1_due_159 (by decide) (fun c_11 => ?_) (fun c_11 => ?_)
              · skip
                refine lv_iconst (v := 0) hx hb dX1_due_166 (by decide) ?_
                refine lv_istore (lv' := [(5, .int 0), (4, .int (mf_fst (((k 24) &&& (k 21)) &&& (k 20)) 10 2 6)), (3, .int 1), (2, .int (mf_fst (((k 24) &&& (k 21)) &&& ((k 20) ^^^ (-1))) 10 2 6)), (1, .int (mf_fst ((mf_tell k tm al ln 7) &&& (k 1)) 9 1 5)), (0, .ref h0)]) hx hb dX1_due_167 hl (by decide) rfl (fun ls hl => ?_)
                refine lv_iload hx hb dX1_due_169 (lv_at hl 0 rfl) ?_
                refine lv_if_eq (tgt := 190) hx hb dX1_due_171 (by decide) (fun c_12 => ?_) (fun c_12 => ?_)
                · skip
                  refine lv_iconst (v := -1) hx hb dX1_due_190 (by decide) ?_
                  exact cf_roEnd hx hb hr hlocks (by show -1 = mf_due k md tm al ln; simp only [mf_due, mf_dS, mf_dV, mf_dV1, if_neg c_1, if_neg c_2, if_pos (show (mf_own k tm al ln) = (-1) from c_3), if_pos (show (mf_hy k) = (-1) from c_5), if_neg c_6, if_pos c_9, if_pos c_11, if_pos c_12, ↓reduceIte]) dX1_due_191
                · skip
                  exact absurd (by decide) c_12
              · skip
                refine lv_iconst (v := 1) hx hb dX1_due_162 (by decide) ?_
                refine lv_goto (tgt := 167) hx hb dX1_due_163 (by decide) ?_
                refine lv_istore (lv' := [(5, .int 1), (4, .int (mf_fst (((k 24) &&& (k 21)) &&& (k 20)) 10 2 6)), (3, .int 1), (2, .int (mf_fst (((k 24) &&& (k 21)) &&& ((k 20) ^^^ (-1))) 10 2 6)), (1, .int (mf_fst ((mf_tell k tm al ln 7) &&& (k 1)) 9 1 5)), (0, .ref h0)]) hx hb dX1_due_167 hl (by decide) rfl (fun ls hl => ?_)
                refine lv_iload hx hb dX1_due_169 (lv_at hl 0 rfl) ?_
                refine lv_if_eq (tgt := 190) hx hb dX1_due_171 (by decide) (fun c_13 => ?_) (fun c_13 => ?_)
                · skip
                  exact absurd c_13 c_2
                · skip
                  refine lv_iload hx hb dX1_due_174 (lv_at hl 1 rfl) ?_
                  refine lv_iconst (v := -1) hx hb dX1_due_176 (by decide) ?_
                  refine lv_icmp_eq (tgt := 190) hx hb dX1_due_177 (by decide) (fun c_14 => ?_) (fun c_14 => ?_)
                  · skip
                    refine lv_iconst (v := -1) hx hb dX1_due_190 (by decide) ?_
                    exact cf_roEnd hx hb hr hlocks (by show -1 = mf_due k md tm al ln; simp only [mf_due, mf_dS, mf_dV, mf_dV1, if_neg c_1, if_neg c_2, if_pos (show (mf_own k tm al ln) = (-1) from c_3), if_pos (show (mf_hy k) = (-1) from c_5), if_neg c_6, if_pos c_9, if_neg c_11, if_neg c_13, if_pos (show (mf_vi k) = (-1) from c_14), ↓reduceIte]) dX1_due_191
                  · skip
                    refine lv_bipush (v := 100) hx hb dX1_due_180 (by decide) ?_
                    refine lv_iload hx hb dX1_due_182 (lv_at hl 1 rfl) ?_
                    refine lv_iadd hx hb dX1_due_184 ?_
                    refine lv_iconst (v := 1) hx hb dX1_due_185 (by decide) ?_
                    refine lv_isub hx hb dX1_due_186 ?_
                    refine lv_goto (tgt := 191) hx hb dX1_due_187 (by decide) ?_
                    exact cf_roEnd hx hb hr hlocks (by show (100 + (mf_vi k)) - 1 = mf_due k md tm al ln; simp only [mf_due, mf_dS, mf_dV, mf_dV1, if_neg c_1, if_neg c_2, if_pos (show (mf_own k tm al ln) = (-1) from c_3), if_pos (show (mf_hy k) = (-1) from c_5), if_neg c_6, if_pos c_9, if_neg c_11, if_neg c_13, if_neg (show ¬ ((mf_vi k) = (-1)) from c_14), ↓reduceIte]) dX1_due_191
        · skip
          refine lv_iload_n hx hb dX1_due_92 rfl (lv_at hl 2 rfl) ?_
          refine lv_iconst (v := -1) hx hb dX1_due_93 (by decide) ?_
          refine lv_icmp_eq (tgt := 101) hx hb dX1_due_94 (by decide) (fun c_15 => ?_) (fun c_15 => ?_)
          · skip
            refine lv_iload_n hx hb dX1_due_101 rfl (lv_at hl 1 rfl) ?_
            exact cf_roEnd hx hb hr hlocks (by show mf_hy k = mf_due k md tm al ln; simp only [mf_due, mf_dS, mf_dV, mf_dV1, if_neg c_1, if_neg c_2, if_pos (show (mf_own k tm al ln) = (-1) from c_3), if_neg (show ¬ ((mf_hy k) = (-1)) from c_5), if_pos (show (mf_own k tm al ln) = (-1) from c_15), ↓reduceIte]) dX1_due_102
          · skip
            exact absurd c_3 c_15
  · skip
    refine lv_aload_n hx hb dX1_due_63 rfl (lv_at hl 2 rfl) ?_
    refine lv_iconst (v := 0) hx hb dX1_due_64 (by decide) ?_
    refine lv_iconst (v := 1) hx hb dX1_due_65 (by decide) ?_
    refine cf_callV (As := [.int 0, .int 1]) (rest := []) ⟨hx, hb, hml, hown, hts⟩ (m_has l D z h0 h1 cA k md tm al ln od 0 1 0 (by decide) rfl) (cwV 2 hts gX1_due_X1_has rfl rfl rfl (by decide +kernel) ⟨Nat.le_of_ble_eq_true rfl, Nat.le_of_ble_eq_true rfl⟩) hP hK hZ hS (ci := 1) (q0 := 0) rfl rfl rfl rfl hl.1 rfl (Nat.le_of_ble_eq_true rfl) dX1_due_66 ⟨Nat.zero_le _, Nat.zero_le _⟩ ?_
    refine lv_if_eq (tgt := 76) hx hb dX1_due_69 (by decide) (fun c_16 => ?_) (fun c_16 => ?_)
    · skip
      refine lv_iconst (v := 0) hx hb dX1_due_76 (by decide) ?_
      refine lv_istore_n (lv' := [(3, .int 0), (2, .int (mf_fst (((k 24) &&& (k 21)) &&& ((k 20) ^^^ (-1))) 10 2 6)), (1, .int (mf_fst ((mf_tell k tm al ln 7) &&& (k 1)) 9 1 5)), (0, .ref h0)]) hx hb dX1_due_77 rfl hl (by decide) rfl (fun ls hl => ?_)
      refine lv_iload_n hx hb dX1_due_78 rfl (lv_at hl 0 rfl) ?_
      refine lv_if_eq (tgt := 103) hx hb dX1_due_79 (by decide) (fun c_17 => ?_) (fun c_17 => ?_)
      · skip
        refine lv_aload_n hx hb dX1_due_103 rfl (lv_at hl 3 rfl) ?_
        refine va_get (D := D) (ci := 1) (v := .ref h1) (C := RX1) (T := TX1) (N := 6) hx hb hts hin0 hown hK hP 0 rfl rfl 0 (by decide) (hts (.fieldLink RX1 7 "ControlFileModel" "kept" "[I") (by decide +kernel)) (fun _ h9 => h9) rfl dX1_due_104 ?_
        refine lv_bipush (v := 24) hx hb dX1_due_107 (by decide) ?_
        refine cf_ld 24 hx hb hK hP 1 0 rfl rfl rfl (by decide) dX1_due_109 ?_
        refine lv_aload_n hx hb dX1_due_110 rfl (lv_at hl 3 rfl) ?_
        refine va_get (D := D) (ci := 1) (v := .ref h1) (C := RX1) (T := TX1) (N := 6) hx hb hts hin0 hown hK hP 0 rfl rfl 0 (by decide) (hts (.fieldLink RX1 7 "ControlFileModel" "kept" "[I") (by decide +kernel)) (fun _ h9 => h9) rfl dX1_due_111 ?_
        refine lv_bipush (v := 21) hx hb dX1_due_114 (by decide) ?_
        refine cf_ld 21 hx hb hK hP 1 0 rfl rfl rfl (by decide) dX1_due_116 ?_
        refine lv_iand hx hb dX1_due_117 ?_
        refine lv_aload_n hx hb dX1_due_118 rfl (lv_at hl 3 rfl) ?_
        refine va_get (D := D) (ci := 1) (v := .ref h1) (C := RX1) (T := TX1) (N := 6) hx hb hts hin0 hown hK hP 0 rfl rfl 0 (by decide) (hts (.fieldLink RX1 7 "ControlFileModel" "kept" "[I") (by decide +kernel)) (fun _ h9 => h9) rfl dX1_due_119 ?_
        refine lv_bipush (v := 20) hx hb dX1_due_122 (by decide) ?_
        refine cf_ld 20 hx hb hK hP 1 0 rfl rfl rfl (by decide) dX1_due_124 ?_
        refine lv_iand hx hb dX1_due_125 ?_
        refine lv_bipush (v := 10) hx hb dX1_due_126 (by decide) ?_
        refine lv_iconst (v := 2) hx hb dX1_due_128 (by decide) ?_
        refine lv_bipush (v := 6) hx hb dX1_due_129 (by decide) ?_
        refine cf_callS (As := [.int (((k 24) &&& (k 21)) &&& (k 20)), .int 10, .int 2, .int 6]) (rest := []) ⟨hx, hb, hml, hown, hts⟩ (m_firstOf l D z (((k 24) &&& (k 21)) &&& (k 20)) 10 2 6) (va_cwS 4 hts gX1_due_X1_firstOf rfl rfl rfl (by decide +kernel) ⟨Nat.le_of_ble_eq_true rfl, Nat.le_of_ble_eq_true rfl⟩) (hP.sub (ws' := []) [] rfl) (hK.sub (tys' := []) [] rfl) hZ hS rfl hl.1 rfl (Nat.le_of_ble_eq_true rfl) dX1_due_131 ⟨Nat.zero_le _, Nat.zero_le _⟩ ?_
        refine lv_istore (lv' := [(4, .int (mf_fst (((k 24) &&& (k 21)) &&& (k 20)) 10 2 6)), (3, .int 0), (2, .int (mf_fst (((k 24) &&& (k 21)) &&& ((k 20) ^^^ (-1))) 10 2 6)), (1, .int (mf_fst ((mf_tell k tm al ln 7) &&& (k 1)) 9 1 5)), (0, .ref h0)]) hx hb dX1_due_134 hl (by decide) rfl (fun ls hl => ?_)
        refine lv_aload_n hx hb dX1_due_136 rfl (lv_at hl 4 rfl) ?_
        refine va_get (D := D) (ci := 1) (v := .int md) (C := RX1) (T := TX1) (N := 6) hx hb hts hin0 hown hK hP 0 rfl rfl 1 (by decide) (hts (.fieldLink RX1 16 "ControlFileModel" "mode" "I") (by decide +kernel)) (fun _ h9 => h9) rfl dX1_due_137 ?_
        refine lv_iconst (v := 2) hx hb dX1_due_140 (by decide) ?_
        refine lv_icmp_eq (tgt := 162) hx hb dX1_due_141 (by decide) (fun c_18 => ?_) (fun c_18 => ?_)
        · skip
          refine lv_iconst (v := 1) hx hb dX1_due_162 (by decide) ?_
          refine lv_goto (tgt := 167) hx hb dX1_due_163 (by decide) ?_
          refine lv_istore (lv' := [(5, .int 1), (4, .int (mf_fst (((k 24) &&& (k 21)) &&& (k 20)) 10 2 6)), (3, .int 0), (2, .int (mf_fst (((k 24) &&& (k 21)) &&& ((k 20) ^^^ (-1))) 10 2 6)), (1, .int (mf_fst ((mf_tell k tm al ln 7) &&& (k 1)) 9 1 5)), (0, .ref h0)]) hx hb dX1_due_167 hl (by decide) rfl (fun ls hl => ?_)
          refine lv_iload hx hb dX1_due_169 (lv_at hl 0 rfl) ?_
          refine lv_if_eq (tgt := 190) hx hb dX1_due_171 (by decide) (fun c_19 => ?_) (fun c_19 => ?_)
          · skip
            exact absurd c_19 (by decide)
          · skip
            refine lv_iload hx hb dX1_due_174 (lv_at hl 1 rfl) ?_
            refine lv_iconst (v := -1) hx hb dX1_due_176 (by decide) ?_
            refine lv_icmp_eq (tgt := 190) hx hb dX1_due_177 (by decide) (fun c_20 => ?_) (fun c_20 => ?_)
            · skip
              refine lv_iconst (v := -1) hx hb dX1_due_190 (by decide) ?_
              exact cf_roEnd hx hb hr hlocks (by show -1 = mf_due k md tm al ln; simp only [mf_due, mf_dS, mf_dV, mf_dV1, if_pos c_1, if_pos c_16, if_pos c_17, if_pos c_18, if_neg c_19, if_pos (show (mf_vi k) = (-1) from c_20), ↓reduceIte]) dX1_due_191
            · skip
              refine lv_bipush (v := 100) hx hb dX1_due_180 (by decide) ?_
              refine lv_iload hx hb dX1_due_182 (lv_at hl 1 rfl) ?_
              refine lv_iadd hx hb dX1_due_184 ?_
              refine lv_iconst (v := 1) hx hb dX1_due_185 (by decide) ?_
              refine lv_isub hx hb dX1_due_186 ?_
              refine lv_goto (tgt := 191) hx hb dX1_due_187 (by decide) ?_
              exact cf_roEnd hx hb hr hlocks (by show (100 + (mf_vi k)) - 1 = mf_due k md tm al ln; simp only [mf_due, mf_dS, mf_dV, mf_dV1, if_pos c_1, if_pos c_16, if_pos c_17, if_pos c_18, if_neg c_19, if_neg (show ¬ ((mf_vi k) = (-1)) from c_20), ↓reduceIte]) dX1_due_191
        · skip
          refine lv_aload_n hx hb dX1_due_144 rfl (lv_at hl 4 rfl) ?_
          refine va_get (D := D) (ci := 1) (v := .int md) (C := RX1) (T := TX1) (N := 6) hx hb hts hin0 hown hK hP 0 rfl rfl 1 (by decide) (hts (.fieldLink RX1 16 "ControlFileModel" "mode" "I") (by decide +kernel)) (fun _ h9 => h9) rfl dX1_due_145 ?_
          refine lv_iconst (v := 3) hx hb dX1_due_148 (by decide) ?_
          refine lv_icmp_ne (tgt := 166) hx hb dX1_due_149 (by decide) (fun c_21 => ?_) (fun c_21 => ?_)
          · skip
            refine lv_iconst (v := 0) hx hb dX1_due_166 (by decide) ?_
            refine lv_istore (lv' := [(5, .int 0), (4, .int (mf_fst (((k 24) &&& (k 21)) &&& (k 20)) 10 2 6)), (3, .int 0), (2, .int (mf_fst (((k 24) &&& (k 21)) &&& ((k 20) ^^^ (-1))) 10 2 6)), (1, .int (mf_fst ((mf_tell k tm al ln 7) &&& (k 1)) 9 1 5)), (0, .ref h0)]) hx hb dX1_due_167 hl (by decide) rfl (fun ls hl => ?_)
            refine lv_iload hx hb dX1_due_169 (lv_at hl 0 rfl) ?_
            refine lv_if_eq (tgt := 190) hx hb dX1_due_171 (by decide) (fun c_22 => ?_) (fun c_22 => ?_)
            · skip
              refine lv_iconst (v := -1) hx hb dX1_due_190 (by decide) ?_
              exact cf_roEnd hx hb hr hlocks (by show -1 = mf_due k md tm al ln; simp only [mf_due, mf_dS, mf_dV, mf_dV1, if_pos c_1, if_pos c_16, if_pos c_17, if_neg c_18, if_neg c_21, if_pos c_22, ↓reduceIte]) dX1_due_191
            · skip
              exact absurd c_17 c_22
          · skip
            refine lv_aload_n hx hb dX1_due_152 rfl (lv_at hl 4 rfl) ?_
            refine lv_bipush (v := 9) hx hb dX1_due_153 (by decide) ?_
            refine lv_iconst (v := 1) hx hb dX1_due_155 (by decide) ?_
            refine cf_callV (As := [.int 9, .int 1]) (rest := []) ⟨hx, hb, hml, hown, hts⟩ (m_has l D z h0 h1 cA k md tm al ln od 9 1 9 (by decide) rfl) (cwV 2 hts gX1_due_X1_has rfl rfl rfl (by decide +kernel) ⟨Nat.le_of_ble_eq_true rfl, Nat.le_of_ble_eq_true rfl⟩) hP hK hZ hS (ci := 1) (q0 := 0) rfl rfl rfl rfl hl.1 rfl (Nat.le_of_ble_eq_true rfl) dX1_due_156 ⟨Nat.zero_le _, Nat.zero_le _⟩ ?_
            refine lv_if_eq (tgt := 166) hx hb dX1_due_159 (by decide) (fun c_23 => ?_) (fun c_23 => ?_)
            · skip
              refine lv_iconst (v := 0) hx hb dX1_due_166 (by decide) ?_
              refine lv_istore (lv' := [(5, .int 0), (4, .int (mf_fst (((k 24) &&& (k 21)) &&& (k 20)) 10 2 6)), (3, .int 0), (2, .int (mf_fst (((k 24) &&& (k 21)) &&& ((k 20) ^^^ (-1))) 10 2 6)), (1, .int (mf_fst ((mf_tell k tm al ln 7) &&& (k 1)) 9 1 5)), (0, .ref h0)]) hx hb dX1_due_167 hl (by decide) rfl (fun ls hl => ?_)
              refine lv_iload hx hb dX1_due_169 (lv_at hl 0 rfl) ?_
              refine lv_if_eq (tgt := 190) hx hb dX1_due_171 (by decide) (fun c_24 => ?_) (fun c_24 => ?_)
              · skip
                refine lv_iconst (v := -1) hx hb dX1_due_190 (by decide) ?_
                exact cf_roEnd hx hb hr hlocks (by show -1 = mf_due k md tm al ln; simp only [mf_due, mf_dS, mf_dV, mf_dV1, if_pos c_1, if_pos c_16, if_pos c_17, if_neg c_18, if_pos c_21, if_pos c_23, if_pos c_24, ↓reduceIte]) dX1_due_191
              · skip
                exact absurd c_17 c_24
            · skip
              refine lv_iconst (v := 1) hx hb dX1_due_162 (by decide) ?_
              refine lv_goto (tgt := 167) hx hb dX1_due_163 (by decide) ?_
              refine lv_istore (lv' := [(5, .int 1), (4, .int (mf_fst (((k 24) &&& (k 21)) &&& (k 20)) 10 2 6)), (3, .int 0), (2, .int (mf_fst (((k 24) &&& (k 21)) &&& ((k 20) ^^^ (-1))) 10 2 6)), (1, .int (mf_fst ((mf_tell k tm al ln 7) &&& (k 1)) 9 1 5)), (0, .ref h0)]) hx hb dX1_due_167 hl (by decide) rfl (fun ls hl => ?_)
              refine lv_iload hx hb dX1_due_169 (lv_at hl 0 rfl) ?_
              refine lv_if_eq (tgt := 190) hx hb dX1_due_171 (by decide) (fun c_25 => ?_) (fun c_25 => ?_)
              · skip
                exact absurd c_25 (by decide)
              · skip
                refine lv_iload hx hb dX1_due_174 (lv_at hl 1 rfl) ?_
                refine lv_iconst (v := -1) hx hb dX1_due_176 (by decide) ?_
                refine lv_icmp_eq (tgt := 190) hx hb dX1_due_177 (by decide) (fun c_26 => ?_) (fun c_26 => ?_)
                · skip
                  refine lv_iconst (v := -1) hx hb dX1_due_190 (by decide) ?_
                  exact cf_roEnd hx hb hr hlocks (by show -1 = mf_due k md tm al ln; simp only [mf_due, mf_dS, mf_dV, mf_dV1, if_pos c_1, if_pos c_16, if_pos c_17, if_neg c_18, if_pos c_21, if_neg c_23, if_neg c_25, if_pos (show (mf_vi k) = (-1) from c_26), ↓reduceIte]) dX1_due_191
                · skip
                  refine lv_bipush (v := 100) hx hb dX1_due_180 (by decide) ?_
                  refine lv_iload hx hb dX1_due_182 (lv_at hl 1 rfl) ?_
                  refine lv_iadd hx hb dX1_due_184 ?_
                  refine lv_iconst (v := 1) hx hb dX1_due_185 (by decide) ?_
                  refine lv_isub hx hb dX1_due_186 ?_
                  refine lv_goto (tgt := 191) hx hb dX1_due_187 (by decide) ?_
                  exact cf_roEnd hx hb hr hlocks (by show (100 + (mf_vi k)) - 1 = mf_due k md tm al ln; simp only [mf_due, mf_dS, mf_dV, mf_dV1, if_pos c_1, if_pos c_16, if_pos c_17, if_neg c_18, if_pos c_21, if_neg c_23, if_neg c_25, if_neg (show ¬ ((mf_vi k) = (-1)) from c_26), ↓reduceIte]) dX1_due_191
      · skip
        exact absurd (by decide) c_17
    · skip
      refine lv_iconst (v := 1) hx hb dX1_due_72 (by decide) ?_
      refine lv_goto (tgt := 77) hx hb dX1_due_73 (by decide) ?_
      refine lv_istore_n (lv' := [(3, .int 1), (2, .int (mf_fst (((k 24) &&& (k 21)) &&& ((k 20) ^^^ (-1))) 10 2 6)), (1, .int (mf_fst ((mf_tell k tm al ln 7) &&& (k 1)) 9 1 5)), (0, .ref h0)]) hx hb dX1_due_77 rfl hl (by decide) rfl (fun ls hl => ?_)
      refine lv_iload_n hx hb dX1_due_78 rfl (lv_at hl 0 rfl) ?_
      refine lv_if_eq (tgt := 103) hx hb dX1_due_79 (by decide) (fun c_27 => ?_) (fun c_27 => ?_)
      · skip
        exact absurd c_27 (by decide)
      · skip
        refine lv_iload_n hx hb dX1_due_82 rfl (lv_at hl 2 rfl) ?_
        refine lv_iconst (v := -1) hx hb dX1_due_83 (by decide) ?_
        refine lv_icmp_ne (tgt := 92) hx hb dX1_due_84 (by decide) (fun c_28 => ?_) (fun c_28 => ?_)
        · skip
          refine lv_iload_n hx hb dX1_due_92 rfl (lv_at hl 2 rfl) ?_
          refine lv_iconst (v := -1) hx hb dX1_due_93 (by decide) ?_
          refine lv_icmp_eq (tgt := 101) hx hb dX1_due_94 (by decide) (fun c_29 => ?_) (fun c_29 => ?_)
          · skip
            exact absurd c_29 c_28
          · skip
            refine lv_iload_n hx hb dX1_due_97 rfl (lv_at hl 2 rfl) ?_
            refine lv_goto (tgt := 102) hx hb dX1_due_98 (by decide) ?_
            exact cf_roEnd hx hb hr hlocks (by show mf_own k tm al ln = mf_due k md tm al ln; simp only [mf_due, mf_dS, mf_dV, mf_dV1, if_pos c_1, if_neg c_16, if_neg c_27, if_neg (show ¬ ((mf_own k tm al ln) = (-1)) from c_28), if_neg (show ¬ ((mf_own k tm al ln) = (-1)) from c_29), ↓reduceIte]) dX1_due_102
        · skip
          refine lv_iload_n hx hb dX1_due_87 rfl (lv_at hl 1 rfl) ?_
          refine lv_iconst (v := -1) hx hb dX1_due_88 (by decide) ?_
          refine lv_icmp_eq (tgt := 103) hx hb dX1_due_89 (by decide) (fun c_30 => ?_) (fun c_30 => ?_)
          · skip
            refine lv_aload_n hx hb dX1_due_103 rfl (lv_at hl 3 rfl) ?_
            refine va_get (D := D) (ci := 1) (v := .ref h1) (C := RX1) (T := TX1) (N := 6) hx hb hts hin0 hown hK hP 0 rfl rfl 0 (by decide) (hts (.fieldLink RX1 7 "ControlFileModel" "kept" "[I") (by decide +kernel)) (fun _ h9 => h9) rfl dX1_due_104 ?_
            refine lv_bipush (v := 24) hx hb dX1_due_107 (by decide) ?_
            refine cf_ld 24 hx hb hK hP 1 0 rfl rfl rfl (by decide) dX1_due_109 ?_
            refine lv_aload_n hx hb dX1_due_110 rfl (lv_at hl 3 rfl) ?_
            refine va_get (D := D) (ci := 1) (v := .ref h1) (C := RX1) (T := TX1) (N := 6) hx hb hts hin0 hown hK hP 0 rfl rfl 0 (by decide) (hts (.fieldLink RX1 7 "ControlFileModel" "kept" "[I") (by decide +kernel)) (fun _ h9 => h9) rfl dX1_due_111 ?_
            refine lv_bipush (v := 21) hx hb dX1_due_114 (by decide) ?_
            refine cf_ld 21 hx hb hK hP 1 0 rfl rfl rfl (by decide) dX1_due_116 ?_
            refine lv_iand hx hb dX1_due_117 ?_
            refine lv_aload_n hx hb dX1_due_118 rfl (lv_at hl 3 rfl) ?_
            refine va_get (D := D) (ci := 1) (v := .ref h1) (C := RX1) (T := TX1) (N := 6) hx hb hts hin0 hown hK hP 0 rfl rfl 0 (by decide) (hts (.fieldLink RX1 7 "ControlFileModel" "kept" "[I") (by decide +kernel)) (fun _ h9 => h9) rfl dX1_due_119 ?_
            refine lv_bipush (v := 20) hx hb dX1_due_122 (by decide) ?_
            refine cf_ld 20 hx hb hK hP 1 0 rfl rfl rfl (by decide) dX1_due_124 ?_
            refine lv_iand hx hb dX1_due_125 ?_
            refine lv_bipush (v := 10) hx hb dX1_due_126 (by decide) ?_
            refine lv_iconst (v := 2) hx hb dX1_due_128 (by decide) ?_
            refine lv_bipush (v := 6) hx hb dX1_due_129 (by decide) ?_
            refine cf_callS (As := [.int (((k 24) &&& (k 21)) &&& (k 20)), .int 10, .int 2, .int 6]) (rest := []) ⟨hx, hb, hml, hown, hts⟩ (m_firstOf l D z (((k 24) &&& (k 21)) &&& (k 20)) 10 2 6) (va_cwS 4 hts gX1_due_X1_firstOf rfl rfl rfl (by decide +kernel) ⟨Nat.le_of_ble_eq_true rfl, Nat.le_of_ble_eq_true rfl⟩) (hP.sub (ws' := []) [] rfl) (hK.sub (tys' := []) [] rfl) hZ hS rfl hl.1 rfl (Nat.le_of_ble_eq_true rfl) dX1_due_131 ⟨Nat.zero_le _, Nat.zero_le _⟩ ?_
            refine lv_istore (lv' := [(4, .int (mf_fst (((k 24) &&& (k 21)) &&& (k 20)) 10 2 6)), (3, .int 1), (2, .int (mf_fst (((k 24) &&& (k 21)) &&& ((k 20) ^^^ (-1))) 10 2 6)), (1, .int (mf_fst ((mf_tell k tm al ln 7) &&& (k 1)) 9 1 5)), (0, .ref h0)]) hx hb dX1_due_134 hl (by decide) rfl (fun ls hl => ?_)
            refine lv_aload_n hx hb dX1_due_136 rfl (lv_at hl 4 rfl) ?_
            refine va_get (D := D) (ci := 1) (v := .int md) (C := RX1) (T := TX1) (N := 6) hx hb hts hin0 hown hK hP 0 rfl rfl 1 (by decide) (hts (.fieldLink RX1 16 "ControlFileModel" "mode" "I") (by decide +kernel)) (fun _ h9 => h9) rfl dX1_due_137 ?_
            refine lv_iconst (v := 2) hx hb dX1_due_140 (by decide) ?_
            refine lv_icmp_eq (tgt := 162) hx hb dX1_due_141 (by decide) (fun c_31 => ?_) (fun c_31 => ?_)
            · skip
              refine lv_iconst (v := 1) hx hb dX1_due_162 (by decide) ?_
              refine lv_goto (tgt := 167) hx hb dX1_due_163 (by decide) ?_
              refine lv_istore (lv' := [(5, .int 1), (4, .int (mf_fst (((k 24) &&& (k 21)) &&& (k 20)) 10 2 6)), (3, .int 1), (2, .int (mf_fst (((k 24) &&& (k 21)) &&& ((k 20) ^^^ (-1))) 10 2 6)), (1, .int (mf_fst ((mf_tell k tm al ln 7) &&& (k 1)) 9 1 5)), (0, .ref h0)]) hx hb dX1_due_167 hl (by decide) rfl (fun ls hl => ?_)
              refine lv_iload hx hb dX1_due_169 (lv_at hl 0 rfl) ?_
              refine lv_if_eq (tgt := 190) hx hb dX1_due_171 (by decide) (fun c_32 => ?_) (fun c_32 => ?_)
              · skip
                exact absurd c_32 c_27
              · skip
                refine lv_iload hx hb dX1_due_174 (lv_at hl 1 rfl) ?_
                refine lv_iconst (v := -1) hx hb dX1_due_176 (by decide) ?_
                refine lv_icmp_eq (tgt := 190) hx hb dX1_due_177 (by decide) (fun c_33 => ?_) (fun c_33 => ?_)
                · skip
                  refine lv_iconst (v := -1) hx hb dX1_due_190 (by decide) ?_
                  exact cf_roEnd hx hb hr hlocks (by show -1 = mf_due k md tm al ln; simp only [mf_due, mf_dS, mf_dV, mf_dV1, if_pos c_1, if_neg c_16, if_neg c_27, if_pos (show (mf_own k tm al ln) = (-1) from c_28), if_pos (show (mf_hy k) = (-1) from c_30), if_pos c_31, if_neg c_32, if_pos (show (mf_vi k) = (-1) from c_33), ↓reduceIte]) dX1_due_191
                · skip
                  refine lv_bipush (v := 100) hx hb dX1_due_180 (by decide) ?_
                  refine lv_iload hx hb dX1_due_182 (lv_at hl 1 rfl) ?_
                  refine lv_iadd hx hb dX1_due_184 ?_
                  refine lv_iconst (v := 1) hx hb dX1_due_185 (by decide) ?_
                  refine lv_isub hx hb dX1_due_186 ?_
                  refine lv_goto (tgt := 191) hx hb dX1_due_187 (by decide) ?_
                  exact cf_roEnd hx hb hr hlocks (by show (100 + (mf_vi k)) - 1 = mf_due k md tm al ln; simp only [mf_due, mf_dS, mf_dV, mf_dV1, if_pos c_1, if_neg c_16, if_neg c_27, if_pos (show (mf_own k tm al ln) = (-1) from c_28), if_pos (show (mf_hy k) = (-1) from c_30), if_pos c_31, if_neg c_32, if_neg (show ¬ ((mf_vi k) = (-1)) from c_33), ↓reduceIte]) dX1_due_191
            · skip
              refine lv_aload_n hx hb dX1_due_144 rfl (lv_at hl 4 rfl) ?_
              refine va_get (D := D) (ci := 1) (v := .int md) (C := RX1) (T := TX1) (N := 6) hx hb hts hin0 hown hK hP 0 rfl rfl 1 (by decide) (hts (.fieldLink RX1 16 "ControlFileModel" "mode" "I") (by decide +kernel)) (fun _ h9 => h9) rfl dX1_due_145 ?_
              refine lv_iconst (v := 3) hx hb dX1_due_148 (by decide) ?_
              refine lv_icmp_ne (tgt := 166) hx hb dX1_due_149 (by decide) (fun c_34 => ?_) (fun c_34 => ?_)
              · skip
                refine lv_iconst (v := 0) hx hb dX1_due_166 (by decide) ?_
                refine lv_istore (lv' := [(5, .int 0), (4, .int (mf_fst (((k 24) &&& (k 21)) &&& (k 20)) 10 2 6)), (3, .int 1), (2, .int (mf_fst (((k 24) &&& (k 21)) &&& ((k 20) ^^^ (-1))) 10 2 6)), (1, .int (mf_fst ((mf_tell k tm al ln 7) &&& (k 1)) 9 1 5)), (0, .ref h0)]) hx hb dX1_due_167 hl (by decide) rfl (fun ls hl => ?_)
                refine lv_iload hx hb dX1_due_169 (lv_at hl 0 rfl) ?_
                refine lv_if_eq (tgt := 190) hx hb dX1_due_171 (by decide) (fun c_35 => ?_) (fun c_35 => ?_)
                · skip
                  refine lv_iconst (v := -1) hx hb dX1_due_190 (by decide) ?_
                  exact cf_roEnd hx hb hr hlocks (by show -1 = mf_due k md tm al ln; simp only [mf_due, mf_dS, mf_dV, mf_dV1, if_pos c_1, if_neg c_16, if_neg c_27, if_pos (show (mf_own k tm al ln) = (-1) from c_28), if_pos (show (mf_hy k) = (-1) from c_30), if_neg c_31, if_neg c_34, if_pos c_35, ↓reduceIte]) dX1_due_191
                · skip
                  exact absurd (by decide) c_35
              · skip
                refine lv_aload_n hx hb dX1_due_152 rfl (lv_at hl 4 rfl) ?_
                refine lv_bipush (v := 9) hx hb dX1_due_153 (by decide) ?_
                refine lv_iconst (v := 1) hx hb dX1_due_155 (by decide) ?_
                refine cf_callV (As := [.int 9, .int 1]) (rest := []) ⟨hx, hb, hml, hown, hts⟩ (m_has l D z h0 h1 cA k md tm al ln od 9 1 9 (by decide) rfl) (cwV 2 hts gX1_due_X1_has rfl rfl rfl (by decide +kernel) ⟨Nat.le_of_ble_eq_true rfl, Nat.le_of_ble_eq_true rfl⟩) hP hK hZ hS (ci := 1) (q0 := 0) rfl rfl rfl rfl hl.1 rfl (Nat.le_of_ble_eq_true rfl) dX1_due_156 ⟨Nat.zero_le _, Nat.zero_le _⟩ ?_
                refine lv_if_eq (tgt := 166) hx hb dX1_due_159 (by decide) (fun c_36 => ?_) (fun c_36 => ?_)
                · skip
                  refine lv_iconst (v := 0) hx hb dX1_due_166 (by decide) ?_
                  refine lv_istore (lv' := [(5, .int 0), (4, .int (mf_fst (((k 24) &&& (k 21)) &&& (k 20)) 10 2 6)), (3, .int 1), (2, .int (mf_fst (((k 24) &&& (k 21)) &&& ((k 20) ^^^ (-1))) 10 2 6)), (1, .int (mf_fst ((mf_tell k tm al ln 7) &&& (k 1)) 9 1 5)), (0, .ref h0)]) hx hb dX1_due_167 hl (by decide) rfl (fun ls hl => ?_)
                  refine lv_iload hx hb dX1_due_169 (lv_at hl 0 rfl) ?_
                  refine lv_if_eq (tgt := 190) hx hb dX1_due_171 (by decide) (fun c_37 => ?_) (fun c_37 => ?_)
                  · skip
                    refine lv_iconst (v := -1) hx hb dX1_due_190 (by decide) ?_
                    exact cf_roEnd hx hb hr hlocks (by show -1 = mf_due k md tm al ln; simp only [mf_due, mf_dS, mf_dV, mf_dV1, if_pos c_1, if_neg c_16, if_neg c_27, if_pos (show (mf_own k tm al ln) = (-1) from c_28), if_pos (show (mf_hy k) = (-1) from c_30), if_neg c_31, if_pos c_34, if_pos c_36, if_pos c_37, ↓reduceIte]) dX1_due_191
                  · skip
                    exact absurd (by decide) c_37
                · skip
                  refine lv_iconst (v := 1) hx hb dX1_due_162 (by decide) ?_
                  refine lv_goto (tgt := 167) hx hb dX1_due_163 (by decide) ?_
                  refine lv_istore (lv' := [(5, .int 1), (4, .int (mf_fst (((k 24) &&& (k 21)) &&& (k 20)) 10 2 6)), (3, .int 1), (2, .int (mf_fst (((k 24) &&& (k 21)) &&& ((k 20) ^^^ (-1))) 10 2 6)), (1, .int (mf_fst ((mf_tell k tm al ln 7) &&& (k 1)) 9 1 5)), (0, .ref h0)]) hx hb dX1_due_167 hl (by decide) rfl (fun ls hl => ?_)
                  refine lv_iload hx hb dX1_due_169 (lv_at hl 0 rfl) ?_
                  refine lv_if_eq (tgt := 190) hx hb dX1_due_171 (by decide) (fun c_38 => ?_) (fun c_38 => ?_)
                  · skip
                    exact absurd c_38 c_27
                  · skip
                    refine lv_iload hx hb dX1_due_174 (lv_at hl 1 rfl) ?_
                    refine lv_iconst (v := -1) hx hb dX1_due_176 (by decide) ?_
                    refine lv_icmp_eq (tgt := 190) hx hb dX1_due_177 (by decide) (fun c_39 => ?_) (fun c_39 => ?_)
                    · skip
                      refine lv_iconst (v := -1) hx hb dX1_due_190 (by decide) ?_
                      exact cf_roEnd hx hb hr hlocks (by show -1 = mf_due k md tm al ln; simp only [mf_due, mf_dS, mf_dV, mf_dV1, if_pos c_1, if_neg c_16, if_neg c_27, if_pos (show (mf_own k tm al ln) = (-1) from c_28), if_pos (show (mf_hy k) = (-1) from c_30), if_neg c_31, if_pos c_34, if_neg c_36, if_neg c_38, if_pos (show (mf_vi k) = (-1) from c_39), ↓reduceIte]) dX1_due_191
                    · skip
                      refine lv_bipush (v := 100) hx hb dX1_due_180 (by decide) ?_
                      refine lv_iload hx hb dX1_due_182 (lv_at hl 1 rfl) ?_
                      refine lv_iadd hx hb dX1_due_184 ?_
                      refine lv_iconst (v := 1) hx hb dX1_due_185 (by decide) ?_
                      refine lv_isub hx hb dX1_due_186 ?_
                      refine lv_goto (tgt := 191) hx hb dX1_due_187 (by decide) ?_
                      exact cf_roEnd hx hb hr hlocks (by show (100 + (mf_vi k)) - 1 = mf_due k md tm al ln; simp only [mf_due, mf_dS, mf_dV, mf_dV1, if_pos c_1, if_neg c_16, if_neg c_27, if_pos (show (mf_own k tm al ln) = (-1) from c_28), if_pos (show (mf_hy k) = (-1) from c_30), if_neg c_31, if_pos c_34, if_neg c_36, if_neg c_38, if_neg (show ¬ ((mf_vi k) = (-1)) from c_39), ↓reduceIte]) dX1_due_191
          · skip
            refine lv_iload_n hx hb dX1_due_92 rfl (lv_at hl 2 rfl) ?_
            refine lv_iconst (v := -1) hx hb dX1_due_93 (by decide) ?_
            refine lv_icmp_eq (tgt := 101) hx hb dX1_due_94 (by decide) (fun c_40 => ?_) (fun c_40 => ?_)
            · skip
              refine lv_iload_n hx hb dX1_due_101 rfl (lv_at hl 1 rfl) ?_
              exact cf_roEnd hx hb hr hlocks (by show mf_hy k = mf_due k md tm al ln; simp only [mf_due, mf_dS, mf_dV, mf_dV1, if_pos c_1, if_neg c_16, if_neg c_27, if_pos (show (mf_own k tm al ln) = (-1) from c_28), if_neg (show ¬ ((mf_hy k) = (-1)) from c_30), if_pos (show (mf_own k tm al ln) = (-1) from c_40), ↓reduceIte]) dX1_due_102
            · skip
              exact absurd c_28 c_40
