set_option maxHeartbeats 4000000 in
set_option maxRecDepth 100000 in
theorem c_slotOf (l : Launch) (D : va_G) (z : Nat → Nat) (n : Int32) : Met l yX0_slotOf wsX0_slotOf ({ frames := 0, cells := 0, slots := 0, locals := 0 } : Room) (cf_ro [.int n] D [] [] z) (vp_Si (fun r => r = cf_slot n)) 0 0 (fun _ => False) := by
  refine Met.ofW (cc := cX0_slotOf) (maxL := 2) (ret := (some .int)) (by decide) rfl ?_
  intro p e s m args below meth c s₁ B hml hv
  obtain ⟨rfl, hP, hK, hZ⟩ := hv
  have hx := B.exec
  have hb := B.bytes
  have hr := B.returns
  have hts := atoms_spec (ws := wsX0_slotOf) B.pre
  have hown : s.vm.findClass RX0 = some m.cls := findClass_of_methodNamed B.named
  have hlocks := B.notSynchronized
  have hS : va_S (fun _ => False) s.heap s.heap [] := va_S.rf
  have hl := lv_entry ([.int n]) (n := 2) (Nat.le_of_ble_eq_true rfl)
  rw [lg_entry_eq]
  generalize (lg_sl ([.int n]) ++ List.replicate (2 - (lg_sl ([.int n])).length) Slot.unset).toArray = ls at hl ⊢
  have hl : lv_has ls 2 [(0, .int n)] := hl
  refine lv_iconst (v := 0) hx hb dX0_slotOf_0 (by decide) ?_
  refine lv_istore_n (lv' := [(1, .int 0), (0, .int n)]) hx hb dX0_slotOf_1 rfl hl (by decide) rfl (fun ls hl => ?_)
  refine cf_ind (G := W p l e _ s m _ below meth c s.heap [] 0 0 _) 29 (fun i ls => lv_has ls 2 [(1, .int (nI i)), (0, .int n)] ∧ cf_slot n = cf_sl n i (29 - i)) ?_ ?_ 29 0 ls rfl (by omega) ⟨hl, rfl⟩
  · intro i ls hi hI ih
    obtain ⟨hl, hq⟩ := hI
    rw [show 29 - i = (29 - (i + 1)) + 1 by omega] at hq
    refine lv_iload_n hx hb dX0_slotOf_2 rfl (lv_at hl 0 rfl) ?_
    refine va_gets (C := RX0) (ref := RX0) hx hb hZ.1.1 hS hown (hts (.fieldLink RX0 74 "ControlFile" "NUMBERS" "[I") (by decide +kernel)) (fun _ h9 => h9) dX0_slotOf_3 ?_
    refine va_tlen (v := 29) hx hb hZ.1.2 hS rfl dX0_slotOf_6 ?_
    refine lv_icmp_ge (tgt := 27) hx hb dX0_slotOf_7 (by decide) (fun c_1 => ?_) (fun c_1 => ?_)
    · skip
      exact absurd c_1 (show ¬ (29 : Int32) ≤ nI i from nI_ge hi (by decide))
    · skip
      refine va_gets (C := RX0) (ref := RX0) hx hb hZ.1.1 hS hown (hts (.fieldLink RX0 74 "ControlFile" "NUMBERS" "[I") (by decide +kernel)) (fun _ h9 => h9) dX0_slotOf_10 ?_
      refine lv_iload_n hx hb dX0_slotOf_13 rfl (lv_at hl 0 rfl) ?_
      refine va_ti (v := .int (cf_num i)) hx hb hZ.1.2 hS (vp_in_nI hi (by omega)) (congrArg (fun j => Value.int (cf_num j)) (nI_clamp (by omega))) dX0_slotOf_14 ?_
      refine lv_iload_n hx hb dX0_slotOf_15 rfl (lv_at hl 1 rfl) ?_
      refine lv_icmp_ne (tgt := 21) hx hb dX0_slotOf_16 (by decide) (fun c_2 => ?_) (fun c_2 => ?_)
      · skip
        refine lv_iinc (v := nI (i + 1)) (lv' := [(1, .int (nI (i + 1))), (0, .int n)]) hx hb dX0_slotOf_21 hl (k := 0) rfl (nI_1 i) (by decide) rfl (fun ls hl => ?_)
        refine lv_goto (tgt := 2) hx hb dX0_slotOf_24 (by decide) ?_
        exact ih ls ⟨lv_sub hl [0, 1] rfl, by rw [hq, cf_sl, if_neg c_2]⟩
      · skip
        refine lv_iload_n hx hb dX0_slotOf_19 rfl (lv_at hl 0 rfl) ?_
        exact cf_roEnd hx hb hr hlocks (by rw [hq, cf_sl, if_pos c_2]) dX0_slotOf_20
  · intro ls hI
    obtain ⟨hl, hq⟩ := hI
    refine lv_iload_n hx hb dX0_slotOf_2 rfl (lv_at hl 0 rfl) ?_
    refine va_gets (C := RX0) (ref := RX0) hx hb hZ.1.1 hS hown (hts (.fieldLink RX0 74 "ControlFile" "NUMBERS" "[I") (by decide +kernel)) (fun _ h9 => h9) dX0_slotOf_3 ?_
    refine va_tlen (v := 29) hx hb hZ.1.2 hS rfl dX0_slotOf_6 ?_
    refine lv_icmp_ge (tgt := 27) hx hb dX0_slotOf_7 (by decide) (fun c_3 => ?_) (fun c_3 => ?_)
    · skip
      refine lv_iconst (v := -1) hx hb dX0_slotOf_27 (by decide) ?_
      exact cf_roEnd hx hb hr hlocks (by rw [hq]; rfl) dX0_slotOf_28
    · skip
      exact absurd (show (29 : Int32) ≤ nI 29 by decide) c_3
set_option maxHeartbeats 4000000 in
set_option maxRecDepth 100000 in
theorem c_isOfS (l : Launch) (D : va_G) (z : Nat → Nat) (x : Int32) : Met l yX0_isOfS wsX0_isOfS ({ frames := 0, cells := 0, slots := 0, locals := 0 } : Room) (cf_ro [.int x] D [] [] z) (vp_Si (fun r => r = cf_ofS x)) 0 0 (fun _ => False) := by
  refine Met.ofW (cc := cX0_isOfS) (maxL := 1) (ret := (some .boolean)) (by decide) rfl ?_
  intro p e s m args below meth c s₁ B hml hv
  obtain ⟨rfl, hP, hK, hZ⟩ := hv
  have hx := B.exec
  have hb := B.bytes
  have hr := B.returns
  have hts := atoms_spec (ws := wsX0_isOfS) B.pre
  have hown : s.vm.findClass RX0 = some m.cls := findClass_of_methodNamed B.named
  have hlocks := B.notSynchronized
  have hS : va_S (fun _ => False) s.heap s.heap [] := va_S.rf
  have hl := lv_entry ([.int x]) (n := 1) (Nat.le_of_ble_eq_true rfl)
  rw [lg_entry_eq]
  generalize (lg_sl ([.int x]) ++ List.replicate (1 - (lg_sl ([.int x])).length) Slot.unset).toArray = ls at hl ⊢
  have hl : lv_has ls 1 [(0, .int x)] := hl
  refine lv_iload_n hx hb dX0_isOfS_0 rfl (lv_at hl 0 rfl) ?_
  refine lv_if_lt (tgt := 14) hx hb dX0_isOfS_1 (by decide) (fun c_1 => ?_) (fun c_1 => ?_)
  · skip
    refine lv_iconst (v := 0) hx hb dX0_isOfS_14 (by decide) ?_
    exact cf_roEndZ hx hb hr hlocks rfl (by simp only [cf_ofS, if_pos c_1, if_neg cf_n10, if_pos cf_p00, ↓reduceIte]) dX0_isOfS_15
  · skip
    refine lv_iload_n hx hb dX0_isOfS_4 rfl (lv_at hl 0 rfl) ?_
    refine lv_bipush (v := 9) hx hb dX0_isOfS_5 (by decide) ?_
    refine lv_icmp_ge (tgt := 14) hx hb dX0_isOfS_7 (by decide) (fun c_2 => ?_) (fun c_2 => ?_)
    · skip
      refine lv_iconst (v := 0) hx hb dX0_isOfS_14 (by decide) ?_
      exact cf_roEndZ hx hb hr hlocks rfl (by simp only [cf_ofS, if_neg c_1, if_pos c_2, if_neg cf_n10, if_pos cf_p00, ↓reduceIte]) dX0_isOfS_15
    · skip
      refine lv_iconst (v := 1) hx hb dX0_isOfS_10 (by decide) ?_
      refine lv_goto (tgt := 15) hx hb dX0_isOfS_11 (by decide) ?_
      exact cf_roEndZ hx hb hr hlocks rfl (by simp only [cf_ofS, if_neg c_1, if_neg c_2, if_neg cf_n10, if_pos cf_p00, ↓reduceIte]) dX0_isOfS_15
set_option maxHeartbeats 4000000 in
set_option maxRecDepth 100000 in
theorem c_isOfTime (l : Launch) (D : va_G) (z : Nat → Nat) (x : Int32) : Met l yX0_isOfTime wsX0_isOfTime ({ frames := 0, cells := 0, slots := 0, locals := 0 } : Room) (cf_ro [.int x] D [] [] z) (vp_Si (fun r => r = cf_ofT x)) 0 0 (fun _ => False) := by
  refine Met.ofW (cc := cX0_isOfTime) (maxL := 1) (ret := (some .boolean)) (by decide) rfl ?_
  intro p e s m args below meth c s₁ B hml hv
  obtain ⟨rfl, hP, hK, hZ⟩ := hv
  have hx := B.exec
  have hb := B.bytes
  have hr := B.returns
  have hts := atoms_spec (ws := wsX0_isOfTime) B.pre
  have hown : s.vm.findClass RX0 = some m.cls := findClass_of_methodNamed B.named
  have hlocks := B.notSynchronized
  have hS : va_S (fun _ => False) s.heap s.heap [] := va_S.rf
  have hl := lv_entry ([.int x]) (n := 1) (Nat.le_of_ble_eq_true rfl)
  rw [lg_entry_eq]
  generalize (lg_sl ([.int x]) ++ List.replicate (1 - (lg_sl ([.int x])).length) Slot.unset).toArray = ls at hl ⊢
  have hl : lv_has ls 1 [(0, .int x)] := hl
  refine lv_iload_n hx hb dX0_isOfTime_0 rfl (lv_at hl 0 rfl) ?_
  refine lv_bipush (v := 27) hx hb dX0_isOfTime_1 (by decide) ?_
  refine lv_icmp_eq (tgt := 12) hx hb dX0_isOfTime_3 (by decide) (fun c_1 => ?_) (fun c_1 => ?_)
  · skip
    refine lv_iconst (v := 1) hx hb dX0_isOfTime_12 (by decide) ?_
    refine lv_goto (tgt := 17) hx hb dX0_isOfTime_13 (by decide) ?_
    exact cf_roEndZ hx hb hr hlocks rfl (by simp only [cf_ofT, if_pos c_1, if_neg cf_n10, if_pos cf_p00, ↓reduceIte]) dX0_isOfTime_17
  · skip
    refine lv_iload_n hx hb dX0_isOfTime_6 rfl (lv_at hl 0 rfl) ?_
    refine lv_bipush (v := 28) hx hb dX0_isOfTime_7 (by decide) ?_
    refine lv_icmp_ne (tgt := 16) hx hb dX0_isOfTime_9 (by decide) (fun c_2 => ?_) (fun c_2 => ?_)
    · skip
      refine lv_iconst (v := 0) hx hb dX0_isOfTime_16 (by decide) ?_
      exact cf_roEndZ hx hb hr hlocks rfl (by simp only [cf_ofT, if_neg c_1, if_neg c_2, if_neg cf_n10, if_pos cf_p00, ↓reduceIte]) dX0_isOfTime_17
    · skip
      refine lv_iconst (v := 1) hx hb dX0_isOfTime_12 (by decide) ?_
      refine lv_goto (tgt := 17) hx hb dX0_isOfTime_13 (by decide) ?_
      exact cf_roEndZ hx hb hr hlocks rfl (by simp only [cf_ofT, if_neg c_1, if_pos c_2, if_neg cf_n10, if_pos cf_p00, ↓reduceIte]) dX0_isOfTime_17
set_option maxHeartbeats 4000000 in
set_option maxRecDepth 100000 in
theorem c_written (l : Launch) (D : va_G) (z : Nat → Nat) (b : Int32) (kd : Int32) (v : Int32) : Met l yX0_written wsX0_written ({ frames := 0, cells := 0, slots := 0, locals := 0 } : Room) (cf_ro [.int b, .int kd, .int v] D [] [] z) (vp_Si (fun r => r = cf_wrt b kd v)) 0 0 (fun _ => False) := by
  refine Met.ofW (cc := cX0_written) (maxL := 3) (ret := (some .int)) (by decide) rfl ?_
  intro p e s m args below meth c s₁ B hml hv
  obtain ⟨rfl, hP, hK, hZ⟩ := hv
  have hx := B.exec
  have hb := B.bytes
  have hr := B.returns
  have hts := atoms_spec (ws := wsX0_written) B.pre
  have hown : s.vm.findClass RX0 = some m.cls := findClass_of_methodNamed B.named
  have hlocks := B.notSynchronized
  have hS : va_S (fun _ => False) s.heap s.heap [] := va_S.rf
  have hl := lv_entry ([.int b, .int kd, .int v]) (n := 3) (Nat.le_of_ble_eq_true rfl)
  rw [lg_entry_eq]
  generalize (lg_sl ([.int b, .int kd, .int v]) ++ List.replicate (3 - (lg_sl ([.int b, .int kd, .int v])).length) Slot.unset).toArray = ls at hl ⊢
  have hl : lv_has ls 3 [(0, .int b), (1, .int kd), (2, .int v)] := hl
  refine lv_iload_n hx hb dX0_written_0 rfl (lv_at hl 1 rfl) ?_
  refine lv_iconst (v := 1) hx hb dX0_written_1 (by decide) ?_
  refine lv_icmp_ne (tgt := 7) hx hb dX0_written_2 (by decide) (fun c_1 => ?_) (fun c_1 => ?_)
  · skip
    refine lv_iload_n hx hb dX0_written_7 rfl (lv_at hl 1 rfl) ?_
    refine lv_iconst (v := 2) hx hb dX0_written_8 (by decide) ?_
    refine lv_icmp_ne (tgt := 18) hx hb dX0_written_9 (by decide) (fun c_2 => ?_) (fun c_2 => ?_)
    · skip
      refine lv_iload_n hx hb dX0_written_18 rfl (lv_at hl 0 rfl) ?_
      refine lv_iload_n hx hb dX0_written_19 rfl (lv_at hl 2 rfl) ?_
      refine lv_iconst (v := -1) hx hb dX0_written_20 (by decide) ?_
      refine lv_ixor hx hb dX0_written_21 ?_
      refine lv_iand hx hb dX0_written_22 ?_
      exact cf_roEnd hx hb hr hlocks (by simp only [cf_wrt, if_neg c_1, if_neg c_2, if_neg cf_n10, if_pos cf_p00, ↓reduceIte]) dX0_written_23
    · skip
      refine lv_iload_n hx hb dX0_written_12 rfl (lv_at hl 0 rfl) ?_
      refine lv_iload_n hx hb dX0_written_13 rfl (lv_at hl 2 rfl) ?_
      refine lv_ior hx hb dX0_written_14 ?_
      refine lv_goto (tgt := 23) hx hb dX0_written_15 (by decide) ?_
      exact cf_roEnd hx hb hr hlocks (by simp only [cf_wrt, if_neg c_1, if_pos c_2, if_neg cf_n10, if_pos cf_p00, ↓reduceIte]) dX0_written_23
  · skip
    refine lv_iload_n hx hb dX0_written_5 rfl (lv_at hl 2 rfl) ?_
    exact cf_roEnd hx hb hr hlocks (by simp only [cf_wrt, if_pos c_1, if_neg cf_n10, if_pos cf_p00, ↓reduceIte]) dX0_written_6
set_option maxHeartbeats 4000000 in
set_option maxRecDepth 100000 in
theorem c_firstS (l : Launch) (D : va_G) (z : Nat → Nat) (x : Int32) : Met l yX0_firstOf wsX0_firstOf ({ frames := 0, cells := 0, slots := 0, locals := 0 } : Room) (cf_ro [.ref (z 2), .int x] D [] [] z) (vp_Si (fun r => r = cf_fst cf_so x 0 6)) 0 0 (fun _ => False) := by
  refine Met.ofW (cc := cX0_firstOf) (maxL := 3) (ret := (some .int)) (by decide) rfl ?_
  intro p e s m args below meth c s₁ B hml hv
  obtain ⟨rfl, hP, hK, hZ⟩ := hv
  have hx := B.exec
  have hb := B.bytes
  have hr := B.returns
  have hts := atoms_spec (ws := wsX0_firstOf) B.pre
  have hown : s.vm.findClass RX0 = some m.cls := findClass_of_methodNamed B.named
  have hlocks := B.notSynchronized
  have hS : va_S (fun _ => False) s.heap s.heap [] := va_S.rf
  have hl := lv_entry ([.ref (z 2), .int x]) (n := 3) (Nat.le_of_ble_eq_true rfl)
  rw [lg_entry_eq]
  generalize (lg_sl ([.ref (z 2), .int x]) ++ List.replicate (3 - (lg_sl ([.ref (z 2), .int x])).length) Slot.unset).toArray = ls at hl ⊢
  have hl : lv_has ls 3 [(0, .ref (z 2)), (1, .int x)] := hl
  refine lv_iconst (v := 0) hx hb dX0_firstOf_0 (by decide) ?_
  refine lv_istore_n (lv' := [(2, .int 0), (0, .ref (z 2)), (1, .int x)]) hx hb dX0_firstOf_1 rfl hl (by decide) rfl (fun ls hl => ?_)
  refine cf_ind (G := W p l e _ s m _ below meth c s.heap [] 0 0 _) 6 (fun i ls => lv_has ls 3 [(2, .int (nI i)), (0, .ref (z 2)), (1, .int x)] ∧ cf_fst cf_so x 0 6 = cf_fst cf_so x i (6 - i)) ?_ ?_ 6 0 ls rfl (by omega) ⟨hl, rfl⟩
  · intro i ls hi hI ih
    obtain ⟨hl, hq⟩ := hI
    rw [show 6 - i = (6 - (i + 1)) + 1 by omega] at hq
    refine lv_iload_n hx hb dX0_firstOf_2 rfl (lv_at hl 0 rfl) ?_
    refine lv_aload_n hx hb dX0_firstOf_3 rfl (lv_at hl 1 rfl) ?_
    refine va_tlen (v := 6) hx hb hZ.2.2.1.2 hS rfl dX0_firstOf_4 ?_
    refine lv_icmp_ge (tgt := 28) hx hb dX0_firstOf_5 (by decide) (fun c_1 => ?_) (fun c_1 => ?_)
    · skip
      exact absurd c_1 (show ¬ (6 : Int32) ≤ nI i from nI_ge hi (by decide))
    · skip
      refine lv_iload_n hx hb dX0_firstOf_8 rfl (lv_at hl 2 rfl) ?_
      refine lv_aload_n hx hb dX0_firstOf_9 rfl (lv_at hl 1 rfl) ?_
      refine lv_iload_n hx hb dX0_firstOf_10 rfl (lv_at hl 0 rfl) ?_
      refine va_ti (v := .int (cf_so i)) hx hb hZ.2.2.1.2 hS (vp_in_nI hi (by omega)) (congrArg (fun j => Value.int (cf_so j)) (nI_clamp (by omega))) dX0_firstOf_11 ?_
      refine lv_iushr (v := cf_ush x (cf_so i)) hx hb dX0_firstOf_12 rfl ?_
      refine lv_iconst (v := 1) hx hb dX0_firstOf_13 (by decide) ?_
      refine lv_iand hx hb dX0_firstOf_14 ?_
      refine lv_if_eq (tgt := 22) hx hb dX0_firstOf_15 (by decide) (fun c_2 => ?_) (fun c_2 => ?_)
      · skip
        refine lv_iinc (v := nI (i + 1)) (lv' := [(2, .int (nI (i + 1))), (0, .ref (z 2)), (1, .int x)]) hx hb dX0_firstOf_22 hl (k := 0) rfl (nI_1 i) (by decide) rfl (fun ls hl => ?_)
        refine lv_goto (tgt := 2) hx hb dX0_firstOf_25 (by decide) ?_
        exact ih ls ⟨lv_sub hl [0, 1, 2] rfl, by rw [hq, cf_fst, if_pos c_2]⟩
      · skip
        refine lv_aload_n hx hb dX0_firstOf_18 rfl (lv_at hl 1 rfl) ?_
        refine lv_iload_n hx hb dX0_firstOf_19 rfl (lv_at hl 0 rfl) ?_
        refine va_ti (v := .int (cf_so i)) hx hb hZ.2.2.1.2 hS (vp_in_nI hi (by omega)) (congrArg (fun j => Value.int (cf_so j)) (nI_clamp (by omega))) dX0_firstOf_20 ?_
        exact cf_roEnd hx hb hr hlocks (by rw [hq, cf_fst, if_neg c_2]) dX0_firstOf_21
  · intro ls hI
    obtain ⟨hl, hq⟩ := hI
    refine lv_iload_n hx hb dX0_firstOf_2 rfl (lv_at hl 0 rfl) ?_
    refine lv_aload_n hx hb dX0_firstOf_3 rfl (lv_at hl 1 rfl) ?_
    refine va_tlen (v := 6) hx hb hZ.2.2.1.2 hS rfl dX0_firstOf_4 ?_
    refine lv_icmp_ge (tgt := 28) hx hb dX0_firstOf_5 (by decide) (fun c_3 => ?_) (fun c_3 => ?_)
    · skip
      refine lv_iconst (v := -1) hx hb dX0_firstOf_28 (by decide) ?_
      exact cf_roEnd hx hb hr hlocks (by rw [hq]; rfl) dX0_firstOf_29
    · skip
      exact absurd (show (6 : Int32) ≤ nI 6 by decide) c_3
set_option maxHeartbeats 4000000 in
set_option maxRecDepth 100000 in
theorem c_firstV (l : Launch) (D : va_G) (z : Nat → Nat) (x : Int32) : Met l yX0_firstOf wsX0_firstOf ({ frames := 0, cells := 0, slots := 0, locals := 0 } : Room) (cf_ro [.ref (z 3), .int x] D [] [] z) (vp_Si (fun r => r = cf_fst cf_vo x 0 3)) 0 0 (fun _ => False) := by
  refine Met.ofW (cc := cX0_firstOf) (maxL := 3) (ret := (some .int)) (by decide) rfl ?_
  intro p e s m args below meth c s₁ B hml hv
  obtain ⟨rfl, hP, hK, hZ⟩ := hv
  have hx := B.exec
  have hb := B.bytes
  have hr := B.returns
  have hts := atoms_spec (ws := wsX0_firstOf) B.pre
  have hown : s.vm.findClass RX0 = some m.cls := findClass_of_methodNamed B.named
  have hlocks := B.notSynchronized
  have hS : va_S (fun _ => False) s.heap s.heap [] := va_S.rf
  have hl := lv_entry ([.ref (z 3), .int x]) (n := 3) (Nat.le_of_ble_eq_true rfl)
  rw [lg_entry_eq]
  generalize (lg_sl ([.ref (z 3), .int x]) ++ List.replicate (3 - (lg_sl ([.ref (z 3), .int x])).length) Slot.unset).toArray = ls at hl ⊢
  have hl : lv_has ls 3 [(0, .ref (z 3)), (1, .int x)] := hl
  refine lv_iconst (v := 0) hx hb dX0_firstOf_0 (by decide) ?_
  refine lv_istore_n (lv' := [(2, .int 0), (0, .ref (z 3)), (1, .int x)]) hx hb dX0_firstOf_1 rfl hl (by decide) rfl (fun ls hl => ?_)
  refine cf_ind (G := W p l e _ s m _ below meth c s.heap [] 0 0 _) 3 (fun i ls => lv_has ls 3 [(2, .int (nI i)), (0, .ref (z 3)), (1, .int x)] ∧ cf_fst cf_vo x 0 3 = cf_fst cf_vo x i (3 - i)) ?_ ?_ 3 0 ls rfl (by omega) ⟨hl, rfl⟩
  · intro i ls hi hI ih
    obtain ⟨hl, hq⟩ := hI
    rw [show 3 - i = (3 - (i + 1)) + 1 by omega] at hq
    refine lv_iload_n hx hb dX0_firstOf_2 rfl (lv_at hl 0 rfl) ?_
    refine lv_aload_n hx hb dX0_firstOf_3 rfl (lv_at hl 1 rfl) ?_
    refine va_tlen (v := 3) hx hb hZ.2.2.2.2 hS rfl dX0_firstOf_4 ?_
    refine lv_icmp_ge (tgt := 28) hx hb dX0_firstOf_5 (by decide) (fun c_1 => ?_) (fun c_1 => ?_)
    · skip
      exact absurd c_1 (show ¬ (3 : Int32) ≤ nI i from nI_ge hi (by decide))
    · skip
      refine lv_iload_n hx hb dX0_firstOf_8 rfl (lv_at hl 2 rfl) ?_
      refine lv_aload_n hx hb dX0_firstOf_9 rfl (lv_at hl 1 rfl) ?_
      refine lv_iload_n hx hb dX0_firstOf_10 rfl (lv_at hl 0 rfl) ?_
      refine va_ti (v := .int (cf_vo i)) hx hb hZ.2.2.2.2 hS (vp_in_nI hi (by omega)) (congrArg (fun j => Value.int (cf_vo j)) (nI_clamp (by omega))) dX0_firstOf_11 ?_
      refine lv_iushr (v := cf_ush x (cf_vo i)) hx hb dX0_firstOf_12 rfl ?_
      refine lv_iconst (v := 1) hx hb dX0_firstOf_13 (by decide) ?_
      refine lv_iand hx hb dX0_firstOf_14 ?_
      refine lv_if_eq (tgt := 22) hx hb dX0_firstOf_15 (by decide) (fun c_2 => ?_) (fun c_2 => ?_)
      · skip
        refine lv_iinc (v := nI (i + 1)) (lv' := [(2, .int (nI (i + 1))), (0, .ref (z 3)), (1, .int x)]) hx hb dX0_firstOf_22 hl (k := 0) rfl (nI_1 i) (by decide) rfl (fun ls hl => ?_)
        refine lv_goto (tgt := 2) hx hb dX0_firstOf_25 (by decide) ?_
        exact ih ls ⟨lv_sub hl [0, 1, 2] rfl, by rw [hq, cf_fst, if_pos c_2]⟩
      · skip
        refine lv_aload_n hx hb dX0_firstOf_18 rfl (lv_at hl 1 rfl) ?_
        refine lv_iload_n hx hb dX0_firstOf_19 rfl (lv_at hl 0 rfl) ?_
        refine va_ti (v := .int (cf_vo i)) hx hb hZ.2.2.2.2 hS (vp_in_nI hi (by omega)) (congrArg (fun j => Value.int (cf_vo j)) (nI_clamp (by omega))) dX0_firstOf_20 ?_
        exact cf_roEnd hx hb hr hlocks (by rw [hq, cf_fst, if_neg c_2]) dX0_firstOf_21
  · intro ls hI
    obtain ⟨hl, hq⟩ := hI
    refine lv_iload_n hx hb dX0_firstOf_2 rfl (lv_at hl 0 rfl) ?_
    refine lv_aload_n hx hb dX0_firstOf_3 rfl (lv_at hl 1 rfl) ?_
    refine va_tlen (v := 3) hx hb hZ.2.2.2.2 hS rfl dX0_firstOf_4 ?_
    refine lv_icmp_ge (tgt := 28) hx hb dX0_firstOf_5 (by decide) (fun c_3 => ?_) (fun c_3 => ?_)
    · skip
      refine lv_iconst (v := -1) hx hb dX0_firstOf_28 (by decide) ?_
      exact cf_roEnd hx hb hr hlocks (by rw [hq]; rfl) dX0_firstOf_29
    · skip
      exact absurd (show (3 : Int32) ≤ nI 3 by decide) c_3
set_option maxHeartbeats 4000000 in
set_option maxRecDepth 100000 in
theorem c_isTrapped (l : Launch) (D : va_G) (z : Nat → Nat) (h0 h1 : Nat) (cA : ClassId) (k : Nat → Int32) (md : Int32) (tm al : Int64) (ln od : Int32) (x : Int32) : Met l yX0_isTrapped wsX0_isTrapped ({ frames := 0, cells := 0, slots := 0, locals := 0 } : Room) (cf_ro [.ref h0, .int x] D (cf_W 0 h0 h1 cA k md tm al ln od) [(cA, .int)] z) (vp_Si (fun r => r = cf_trap k x)) 0 0 (fun _ => False) := by
  refine Met.ofW (cc := cX0_isTrapped) (maxL := 2) (ret := (some .boolean)) (by decide) rfl ?_
  intro p e s m args below meth c s₁ B hml hv
  obtain ⟨rfl, hP, hK, hZ⟩ := hv
  have hx := B.exec
  have hb := B.bytes
  have hr := B.returns
  have hts := atoms_spec (ws := wsX0_isTrapped) B.pre
  have hown : s.vm.findClass RX0 = some m.cls := findClass_of_methodNamed B.named
  have hlocks := B.notSynchronized
  have hin0 : ∀ w ∈ wsX00, w ∈ wsX0_isTrapped := by decide +kernel
  have hS : va_S (fun _ => False) s.heap s.heap [] := va_S.rf
  have hl := lv_entry ([.ref h0, .int x]) (n := 2) (Nat.le_of_ble_eq_true rfl)
  rw [lg_entry_eq]
  generalize (lg_sl ([.ref h0, .int x]) ++ List.replicate (2 - (lg_sl ([.ref h0, .int x])).length) Slot.unset).toArray = ls at hl ⊢
  have hl : lv_has ls 2 [(0, .ref h0), (1, .int x)] := hl
  refine lv_iload_n hx hb dX0_isTrapped_0 rfl (lv_at hl 1 rfl) ?_
  refine lv_bipush (v := 8) hx hb dX0_isTrapped_1 (by decide) ?_
  refine lv_icmp_ne (tgt := 23) hx hb dX0_isTrapped_3 (by decide) (fun c_1 => ?_) (fun c_1 => ?_)
  · skip
    refine lv_iconst (v := 0) hx hb dX0_isTrapped_23 (by decide) ?_
    exact cf_roEndZ hx hb hr hlocks rfl (by simp only [cf_trap, if_neg c_1, if_neg cf_n10, if_pos cf_p00, ↓reduceIte]) dX0_isTrapped_24
  · skip
    refine lv_aload_n hx hb dX0_isTrapped_6 rfl (lv_at hl 0 rfl) ?_
    refine va_get (D := D) (ci := 0) (v := .ref h1) (C := RX0) (T := TX0) (N := 6) hx hb hts hin0 hown hK hP 0 rfl rfl 0 (by decide) (hts (.fieldLink RX0 9 "ControlFile" "kept" "[I") (by decide +kernel)) (fun _ h9 => h9) rfl dX0_isTrapped_7 ?_
    refine lv_bipush (v := 18) hx hb dX0_isTrapped_10 (by decide) ?_
    refine cf_ld 18 hx hb hK hP 1 0 rfl rfl rfl (by decide) dX0_isTrapped_12 ?_
    refine lv_ldc (own := RX0) (v := 1048576) hx hb hown (hts (.constant RX0 83 1048576) (by decide +kernel)) dX0_isTrapped_13 ?_
    refine lv_iand hx hb dX0_isTrapped_15 ?_
    refine lv_if_eq (tgt := 23) hx hb dX0_isTrapped_16 (by decide) (fun c_2 => ?_) (fun c_2 => ?_)
    · skip
      refine lv_iconst (v := 0) hx hb dX0_isTrapped_23 (by decide) ?_
      exact cf_roEndZ hx hb hr hlocks rfl (by simp only [cf_trap, if_pos c_1, if_pos c_2, if_neg cf_n10, if_pos cf_p00, ↓reduceIte]) dX0_isTrapped_24
    · skip
      refine lv_iconst (v := 1) hx hb dX0_isTrapped_19 (by decide) ?_
      refine lv_goto (tgt := 24) hx hb dX0_isTrapped_20 (by decide) ?_
      exact cf_roEndZ hx hb hr hlocks rfl (by simp only [cf_trap, if_pos c_1, if_neg c_2, if_neg cf_n10, if_pos cf_p00, ↓reduceIte]) dX0_isTrapped_24
set_option maxHeartbeats 4000000 in
set_option maxRecDepth 100000 in
theorem c_permission (l : Launch) (D : va_G) (z : Nat → Nat) (h0 h1 : Nat) (cA : ClassId) (k : Nat → Int32) (md : Int32) (tm al : Int64) (ln od : Int32) (x : Int32) (w : Int32) : Met l yX0_permission wsX0_permission ({ frames := 1, cells := 0, slots := 0, locals := 21 } : Room) (cf_ro [.ref h0, .int x, .int w] D (cf_W 0 h0 h1 cA k md tm al ln od) [(cA, .int)] z) (vp_Si (fun r => r = cf_perm k md x w)) 0 0 (fun _ => False) := by
  refine Met.ofW (cc := cX0_permission) (maxL := 3) (ret := (some .int)) (by decide) rfl ?_
  intro p e s m args below meth c s₁ B hml hv
  obtain ⟨rfl, hP, hK, hZ⟩ := hv
  have hx := B.exec
  have hb := B.bytes
  have hr := B.returns
  have hts := atoms_spec (ws := wsX0_permission) B.pre
  have hown : s.vm.findClass RX0 = some m.cls := findClass_of_methodNamed B.named
  have hlocks := B.notSynchronized
  have hin0 : ∀ w ∈ wsX00, w ∈ wsX0_permission := by decide +kernel
  have hS : va_S (fun _ => False) s.heap s.heap [] := va_S.rf
  have hl := lv_entry ([.ref h0, .int x, .int w]) (n := 3) (Nat.le_of_ble_eq_true rfl)
  rw [lg_entry_eq]
  generalize (lg_sl ([.ref h0, .int x, .int w]) ++ List.replicate (3 - (lg_sl ([.ref h0, .int x, .int w])).length) Slot.unset).toArray = ls at hl ⊢
  have hl : lv_has ls 3 [(0, .ref h0), (1, .int x), (2, .int w)] := hl
  refine lv_iload_n hx hb dX0_permission_0 rfl (lv_at hl 1 rfl) ?_
  refine lv_iconst (v := -1) hx hb dX0_permission_1 (by decide) ?_
  refine lv_icmp_eq (tgt := 16) hx hb dX0_permission_2 (by decide) (fun c_1 => ?_) (fun c_1 => ?_)
  · skip
    refine lv_iconst (v := 2) hx hb dX0_permission_16 (by decide) ?_
    exact cf_roEnd hx hb hr hlocks (by simp only [cf_perm, cf_perm2, if_pos c_1, if_neg cf_n10, if_pos cf_p00, ↓reduceIte]) dX0_permission_17
  · skip
    refine lv_iload_n hx hb dX0_permission_5 rfl (lv_at hl 2 rfl) ?_
    refine lv_if_eq (tgt := 18) hx hb dX0_permission_6 (by decide) (fun c_2 => ?_) (fun c_2 => ?_)
    · skip
      refine lv_aload_n hx hb dX0_permission_18 rfl (lv_at hl 0 rfl) ?_
      refine va_get (D := D) (ci := 0) (v := .int md) (C := RX0) (T := TX0) (N := 6) hx hb hts hin0 hown hK hP 0 rfl rfl 1 (by decide) (hts (.fieldLink RX0 16 "ControlFile" "modeNow" "I") (by decide +kernel)) (fun _ h9 => h9) rfl dX0_permission_19 ?_
      refine lv_iconst (v := 1) hx hb dX0_permission_22 (by decide) ?_
      refine lv_icmp_eq (tgt := 33) hx hb dX0_permission_23 (by decide) (fun c_3 => ?_) (fun c_3 => ?_)
      · skip
        refine lv_iconst (v := 0) hx hb dX0_permission_33 (by decide) ?_
        exact cf_roEnd hx hb hr hlocks (by simp only [cf_perm, cf_perm2, if_neg c_1, if_pos c_2, if_pos c_3, if_neg cf_n10, if_pos cf_p00, ↓reduceIte]) dX0_permission_34
      · skip
        refine lv_iload_n hx hb dX0_permission_26 rfl (lv_at hl 1 rfl) ?_
        refine cf_callS (As := [.int x]) (rest := []) ⟨hx, hb, hml, hown, hts⟩ (c_isOfTime l D z x) (va_cwS 1 hts gX0_permission_X0_isOfTime rfl rfl rfl (by decide +kernel) ⟨Nat.le_of_ble_eq_true rfl, Nat.le_of_ble_eq_true rfl⟩) (hP.sub (ws' := []) [] rfl) (hK.sub (tys' := []) [] rfl) hZ hS rfl hl.1 rfl (Nat.le_of_ble_eq_true rfl) dX0_permission_27 ⟨Nat.zero_le _, Nat.zero_le _⟩ ?_
        refine lv_if_eq (tgt := 35) hx hb dX0_permission_30 (by decide) (fun c_4 => ?_) (fun c_4 => ?_)
        · skip
          refine lv_aload_n hx hb dX0_permission_35 rfl (lv_at hl 0 rfl) ?_
          refine va_get (D := D) (ci := 0) (v := .int md) (C := RX0) (T := TX0) (N := 6) hx hb hts hin0 hown hK hP 0 rfl rfl 1 (by decide) (hts (.fieldLink RX0 16 "ControlFile" "modeNow" "I") (by decide +kernel)) (fun _ h9 => h9) rfl dX0_permission_36 ?_
          refine lv_if_ne (tgt := 44) hx hb dX0_permission_39 (by decide) (fun c_5 => ?_) (fun c_5 => ?_)
          · skip
            refine lv_aload_n hx hb dX0_permission_44 rfl (lv_at hl 0 rfl) ?_
            refine va_get (D := D) (ci := 0) (v := .int md) (C := RX0) (T := TX0) (N := 6) hx hb hts hin0 hown hK hP 0 rfl rfl 1 (by decide) (hts (.fieldLink RX0 16 "ControlFile" "modeNow" "I") (by decide +kernel)) (fun _ h9 => h9) rfl dX0_permission_45 ?_
            refine lv_iconst (v := 3) hx hb dX0_permission_48 (by decide) ?_
            refine lv_icmp_ne (tgt := 71) hx hb dX0_permission_49 (by decide) (fun c_6 => ?_) (fun c_6 => ?_)
            · skip
              refine lv_bipush (v := 22) hx hb dX0_permission_71 (by decide) ?_
              exact cf_roEnd hx hb hr hlocks (by simp only [cf_perm, cf_perm2, if_neg c_1, if_pos c_2, if_neg c_3, if_pos c_4, if_neg c_5, if_neg c_6, if_neg cf_n10, if_pos cf_p00, ↓reduceIte]) dX0_permission_73
            · skip
              refine lv_iload_n hx hb dX0_permission_52 rfl (lv_at hl 1 rfl) ?_
              refine cf_callS (As := [.int x]) (rest := []) ⟨hx, hb, hml, hown, hts⟩ (c_isOfS l D z x) (va_cwS 1 hts gX0_permission_X0_isOfS rfl rfl rfl (by decide +kernel) ⟨Nat.le_of_ble_eq_true rfl, Nat.le_of_ble_eq_true rfl⟩) (hP.sub (ws' := []) [] rfl) (hK.sub (tys' := []) [] rfl) hZ hS rfl hl.1 rfl (Nat.le_of_ble_eq_true rfl) dX0_permission_53 ⟨Nat.zero_le _, Nat.zero_le _⟩ ?_
              refine lv_if_eq (tgt := 71) hx hb dX0_permission_56 (by decide) (fun c_7 => ?_) (fun c_7 => ?_)
              · skip
                refine lv_bipush (v := 22) hx hb dX0_permission_71 (by decide) ?_
                exact cf_roEnd hx hb hr hlocks (by simp only [cf_perm, cf_perm2, if_neg c_1, if_pos c_2, if_neg c_3, if_pos c_4, if_neg c_5, if_pos c_6, if_pos c_7, if_neg cf_n10, if_pos cf_p00, ↓reduceIte]) dX0_permission_73
              · skip
                refine lv_aload_n hx hb dX0_permission_59 rfl (lv_at hl 0 rfl) ?_
                refine lv_iload_n hx hb dX0_permission_60 rfl (lv_at hl 1 rfl) ?_
                refine cf_callV (As := [.int x]) (rest := []) ⟨hx, hb, hml, hown, hts⟩ (c_isTrapped l D z h0 h1 cA k md tm al ln od x) (cwV 1 hts gX0_permission_X0_isTrapped rfl rfl rfl (by decide +kernel) ⟨Nat.le_of_ble_eq_true rfl, Nat.le_of_ble_eq_true rfl⟩) hP hK hZ hS (ci := 0) (q0 := 0) rfl rfl rfl rfl hl.1 rfl (Nat.le_of_ble_eq_true rfl) dX0_permission_61 ⟨Nat.zero_le _, Nat.zero_le _⟩ ?_
                refine lv_if_ne (tgt := 71) hx hb dX0_permission_64 (by decide) (fun c_8 => ?_) (fun c_8 => ?_)
                · skip
                  refine lv_bipush (v := 22) hx hb dX0_permission_71 (by decide) ?_
                  exact cf_roEnd hx hb hr hlocks (by simp only [cf_perm, cf_perm2, if_neg c_1, if_pos c_2, if_neg c_3, if_pos c_4, if_neg c_5, if_pos c_6, if_neg c_7, if_neg c_8, if_neg cf_n10, if_pos cf_p00, ↓reduceIte]) dX0_permission_73
                · skip
                  refine lv_iconst (v := 0) hx hb dX0_permission_67 (by decide) ?_
                  refine lv_goto (tgt := 73) hx hb dX0_permission_68 (by decide) ?_
                  exact cf_roEnd hx hb hr hlocks (by simp only [cf_perm, cf_perm2, if_neg c_1, if_pos c_2, if_neg c_3, if_pos c_4, if_neg c_5, if_pos c_6, if_neg c_7, if_pos c_8, if_neg cf_n10, if_pos cf_p00, ↓reduceIte]) dX0_permission_73
          · skip
            refine lv_iconst (v := 2) hx hb dX0_permission_42 (by decide) ?_
            exact cf_roEnd hx hb hr hlocks (by simp only [cf_perm, cf_perm2, if_neg c_1, if_pos c_2, if_neg c_3, if_pos c_4, if_pos c_5, if_neg cf_n10, if_pos cf_p00, ↓reduceIte]) dX0_permission_43
        · skip
          refine lv_iconst (v := 0) hx hb dX0_permission_33 (by decide) ?_
          exact cf_roEnd hx hb hr hlocks (by simp only [cf_perm, cf_perm2, if_neg c_1, if_pos c_2, if_neg c_3, if_neg c_4, if_neg cf_n10, if_pos cf_p00, ↓reduceIte]) dX0_permission_34
    · skip
      refine lv_iload_n hx hb dX0_permission_9 rfl (lv_at hl 1 rfl) ?_
      refine cf_callS (As := [.int x]) (rest := []) ⟨hx, hb, hml, hown, hts⟩ (c_isOfTime l D z x) (va_cwS 1 hts gX0_permission_X0_isOfTime rfl rfl rfl (by decide +kernel) ⟨Nat.le_of_ble_eq_true rfl, Nat.le_of_ble_eq_true rfl⟩) (hP.sub (ws' := []) [] rfl) (hK.sub (tys' := []) [] rfl) hZ hS rfl hl.1 rfl (Nat.le_of_ble_eq_true rfl) dX0_permission_10 ⟨Nat.zero_le _, Nat.zero_le _⟩ ?_
      refine lv_if_eq (tgt := 18) hx hb dX0_permission_13 (by decide) (fun c_9 => ?_) (fun c_9 => ?_)
      · skip
        refine lv_aload_n hx hb dX0_permission_18 rfl (lv_at hl 0 rfl) ?_
        refine va_get (D := D) (ci := 0) (v := .int md) (C := RX0) (T := TX0) (N := 6) hx hb hts hin0 hown hK hP 0 rfl rfl 1 (by decide) (hts (.fieldLink RX0 16 "ControlFile" "modeNow" "I") (by decide +kernel)) (fun _ h9 => h9) rfl dX0_permission_19 ?_
        refine lv_iconst (v := 1) hx hb dX0_permission_22 (by decide) ?_
        refine lv_icmp_eq (tgt := 33) hx hb dX0_permission_23 (by decide) (fun c_10 => ?_) (fun c_10 => ?_)
        · skip
          refine lv_iconst (v := 0) hx hb dX0_permission_33 (by decide) ?_
          exact cf_roEnd hx hb hr hlocks (by simp only [cf_perm, cf_perm2, if_neg c_1, if_neg c_2, if_pos c_9, if_pos c_10, if_neg cf_n10, if_pos cf_p00, ↓reduceIte]) dX0_permission_34
        · skip
          refine lv_iload_n hx hb dX0_permission_26 rfl (lv_at hl 1 rfl) ?_
          refine cf_callS (As := [.int x]) (rest := []) ⟨hx, hb, hml, hown, hts⟩ (c_isOfTime l D z x) (va_cwS 1 hts gX0_permission_X0_isOfTime rfl rfl rfl (by decide +kernel) ⟨Nat.le_of_ble_eq_true rfl, Nat.le_of_ble_eq_true rfl⟩) (hP.sub (ws' := []) [] rfl) (hK.sub (tys' := []) [] rfl) hZ hS rfl hl.1 rfl (Nat.le_of_ble_eq_true rfl) dX0_permission_27 ⟨Nat.zero_le _, Nat.zero_le _⟩ ?_
          refine lv_if_eq (tgt := 35) hx hb dX0_permission_30 (by decide) (fun c_11 => ?_) (fun c_11 => ?_)
          · skip
            refine lv_aload_n hx hb dX0_permission_35 rfl (lv_at hl 0 rfl) ?_
            refine va_get (D := D) (ci := 0) (v := .int md) (C := RX0) (T := TX0) (N := 6) hx hb hts hin0 hown hK hP 0 rfl rfl 1 (by decide) (hts (.fieldLink RX0 16 "ControlFile" "modeNow" "I") (by decide +kernel)) (fun _ h9 => h9) rfl dX0_permission_36 ?_
            refine lv_if_ne (tgt := 44) hx hb dX0_permission_39 (by decide) (fun c_12 => ?_) (fun c_12 => ?_)
            · skip
              refine lv_aload_n hx hb dX0_permission_44 rfl (lv_at hl 0 rfl) ?_
              refine va_get (D := D) (ci := 0) (v := .int md) (C := RX0) (T := TX0) (N := 6) hx hb hts hin0 hown hK hP 0 rfl rfl 1 (by decide) (hts (.fieldLink RX0 16 "ControlFile" "modeNow" "I") (by decide +kernel)) (fun _ h9 => h9) rfl dX0_permission_45 ?_
              refine lv_iconst (v := 3) hx hb dX0_permission_48 (by decide) ?_
              refine lv_icmp_ne (tgt := 71) hx hb dX0_permission_49 (by decide) (fun c_13 => ?_) (fun c_13 => ?_)
              · skip
                refine lv_bipush (v := 22) hx hb dX0_permission_71 (by decide) ?_
                exact cf_roEnd hx hb hr hlocks (by simp only [cf_perm, cf_perm2, if_neg c_1, if_neg c_2, if_pos c_9, if_neg c_10, if_pos c_11, if_neg c_12, if_neg c_13, if_neg cf_n10, if_pos cf_p00, ↓reduceIte]) dX0_permission_73
              · skip
                refine lv_iload_n hx hb dX0_permission_52 rfl (lv_at hl 1 rfl) ?_
                refine cf_callS (As := [.int x]) (rest := []) ⟨hx, hb, hml, hown, hts⟩ (c_isOfS l D z x) (va_cwS 1 hts gX0_permission_X0_isOfS rfl rfl rfl (by decide +kernel) ⟨Nat.le_of_ble_eq_true rfl, Nat.le_of_ble_eq_true rfl⟩) (hP.sub (ws' := []) [] rfl) (hK.sub (tys' := []) [] rfl) hZ hS rfl hl.1 rfl (Nat.le_of_ble_eq_true rfl) dX0_permission_53 ⟨Nat.zero_le _, Nat.zero_le _⟩ ?_
                refine lv_if_eq (tgt := 71) hx hb dX0_permission_56 (by decide) (fun c_14 => ?_) (fun c_14 => ?_)
                · skip
                  refine lv_bipush (v := 22) hx hb dX0_permission_71 (by decide) ?_
                  exact cf_roEnd hx hb hr hlocks (by simp only [cf_perm, cf_perm2, if_neg c_1, if_neg c_2, if_pos c_9, if_neg c_10, if_pos c_11, if_neg c_12, if_pos c_13, if_pos c_14, if_neg cf_n10, if_pos cf_p00, ↓reduceIte]) dX0_permission_73
                · skip
                  refine lv_aload_n hx hb dX0_permission_59 rfl (lv_at hl 0 rfl) ?_
                  refine lv_iload_n hx hb dX0_permission_60 rfl (lv_at hl 1 rfl) ?_
                  refine cf_callV (As := [.int x]) (rest := []) ⟨hx, hb, hml, hown, hts⟩ (c_isTrapped l D z h0 h1 cA k md tm al ln od x) (cwV 1 hts gX0_permission_X0_isTrapped rfl rfl rfl (by decide +kernel) ⟨Nat.le_of_ble_eq_true rfl, Nat.le_of_ble_eq_true rfl⟩) hP hK hZ hS (ci := 0) (q0 := 0) rfl rfl rfl rfl hl.1 rfl (Nat.le_of_ble_eq_true rfl) dX0_permission_61 ⟨Nat.zero_le _, Nat.zero_le _⟩ ?_
                  refine lv_if_ne (tgt := 71) hx hb dX0_permission_64 (by decide) (fun c_15 => ?_) (fun c_15 => ?_)
                  · skip
                    refine lv_bipush (v := 22) hx hb dX0_permission_71 (by decide) ?_
                    exact cf_roEnd hx hb hr hlocks (by simp only [cf_perm, cf_perm2, if_neg c_1, if_neg c_2, if_pos c_9, if_neg c_10, if_pos c_11, if_neg c_12, if_pos c_13, if_neg c_14, if_neg c_15, if_neg cf_n10, if_pos cf_p00, ↓reduceIte]) dX0_permission_73
                  · skip
                    refine lv_iconst (v := 0) hx hb dX0_permission_67 (by decide) ?_
                    refine lv_goto (tgt := 73) hx hb dX0_permission_68 (by decide) ?_
                    exact cf_roEnd hx hb hr hlocks (by simp only [cf_perm, cf_perm2, if_neg c_1, if_neg c_2, if_pos c_9, if_neg c_10, if_pos c_11, if_neg c_12, if_pos c_13, if_neg c_14, if_pos c_15, if_neg cf_n10, if_pos cf_p00, ↓reduceIte]) dX0_permission_73
            · skip
              refine lv_iconst (v := 2) hx hb dX0_permission_42 (by decide) ?_
              exact cf_roEnd hx hb hr hlocks (by simp only [cf_perm, cf_perm2, if_neg c_1, if_neg c_2, if_pos c_9, if_neg c_10, if_pos c_11, if_pos c_12, if_neg cf_n10, if_pos cf_p00, ↓reduceIte]) dX0_permission_43
          · skip
            exact absurd c_9 c_11
      · skip
        refine lv_iconst (v := 2) hx hb dX0_permission_16 (by decide) ?_
        exact cf_roEnd hx hb hr hlocks (by simp only [cf_perm, cf_perm2, if_neg c_1, if_neg c_2, if_neg c_9, if_neg cf_n10, if_pos cf_p00, ↓reduceIte]) dX0_permission_17
set_option maxHeartbeats 4000000 in
set_option maxRecDepth 100000 in
theorem c_pendingForS (l : Launch) (D : va_G) (z : Nat → Nat) (h0 h1 : Nat) (cA : ClassId) (k : Nat → Int32) (md : Int32) (tm al : Int64) (ln od : Int32) : Met l yX0_pendingForS wsX0_pendingForS ({ frames := 0, cells := 0, slots := 0, locals := 0 } : Room) (cf_ro [.ref h0] D (cf_W 0 h0 h1 cA k md tm al ln od) [(cA, .int)] z) (vp_Si (fun r => r = cf_pend k tm al ln)) 0 0 (fun _ => False) := by
  refine Met.ofW (cc := cX0_pendingForS) (maxL := 2) (ret := (some .int)) (by decide) rfl ?_
  intro p e s m args below meth c s₁ B hml hv
  obtain ⟨rfl, hP, hK, hZ⟩ := hv
  have hx := B.exec
  have hb := B.bytes
  have hr := B.returns
  have hts := atoms_spec (ws := wsX0_pendingForS) B.pre
  have hown : s.vm.findClass RX0 = some m.cls := findClass_of_methodNamed B.named
  have hlocks := B.notSynchronized
  have hin0 : ∀ w ∈ wsX00, w ∈ wsX0_pendingForS := by decide +kernel
  have hS : va_S (fun _ => False) s.heap s.heap [] := va_S.rf
  have hl := lv_entry ([.ref h0]) (n := 2) (Nat.le_of_ble_eq_true rfl)
  rw [lg_entry_eq]
  generalize (lg_sl ([.ref h0]) ++ List.replicate (2 - (lg_sl ([.ref h0])).length) Slot.unset).toArray = ls at hl ⊢
  have hl : lv_has ls 2 [(0, .ref h0)] := hl
  refine lv_aload_n hx hb dX0_pendingForS_0 rfl (lv_at hl 0 rfl) ?_
  refine va_get (D := D) (ci := 0) (v := .ref h1) (C := RX0) (T := TX0) (N := 6) hx hb hts hin0 hown hK hP 0 rfl rfl 0 (by decide) (hts (.fieldLink RX0 9 "ControlFile" "kept" "[I") (by decide +kernel)) (fun _ h9 => h9) rfl dX0_pendingForS_1 ?_
  refine lv_bipush (v := 7) hx hb dX0_pendingForS_4 (by decide) ?_
  refine cf_ld 7 hx hb hK hP 1 0 rfl rfl rfl (by decide) dX0_pendingForS_6 ?_
  refine lv_istore_n (lv' := [(1, .int (k 7)), (0, .ref h0)]) hx hb dX0_pendingForS_7 rfl hl (by decide) rfl (fun ls hl => ?_)
  refine lv_aload_n hx hb dX0_pendingForS_8 rfl (lv_at hl 1 rfl) ?_
  refine va_get (D := D) (ci := 0) (v := .long tm) (C := RX0) (T := TX0) (N := 6) hx hb hts hin0 hown hK hP 0 rfl rfl 2 (by decide) (hts (.fieldLink RX0 22 "ControlFile" "timeNow" "J") (by decide +kernel)) (fun _ h9 => h9) rfl dX0_pendingForS_9 ?_
  refine lv_aload_n hx hb dX0_pendingForS_12 rfl (lv_at hl 1 rfl) ?_
  refine va_get (D := D) (ci := 0) (v := .long al) (C := RX0) (T := TX0) (N := 6) hx hb hts hin0 hown hK hP 0 rfl rfl 3 (by decide) (hts (.fieldLink RX0 26 "ControlFile" "alarmAt" "J") (by decide +kernel)) (fun _ h9 => h9) rfl dX0_pendingForS_13 ?_
  refine W.lcmp hx hb dX0_pendingForS_16 ?_
  refine lv_if_lt (tgt := 25) hx hb dX0_pendingForS_17 (by decide) (fun c_1 => ?_) (fun c_1 => ?_)
  · skip
    refine lv_aload_n hx hb dX0_pendingForS_25 rfl (lv_at hl 1 rfl) ?_
    refine va_get (D := D) (ci := 0) (v := .int ln) (C := RX0) (T := TX0) (N := 6) hx hb hts hin0 hown hK hP 0 rfl rfl 4 (by decide) (hts (.fieldLink RX0 31 "ControlFile" "lineOn" "Z") (by decide +kernel)) (fun _ h9 => h9) rfl dX0_pendingForS_26 ?_
    refine lv_if_eq (tgt := 38) hx hb dX0_pendingForS_29 (by decide) (fun c_2 => ?_) (fun c_2 => ?_)
    · skip
      refine lv_iload_n hx hb dX0_pendingForS_38 rfl (lv_at hl 0 rfl) ?_
      exact cf_roEnd hx hb hr hlocks (by simp only [cf_pend, if_pos c_1, if_pos c_2, if_neg cf_n10, if_pos cf_p00, ↓reduceIte]) dX0_pendingForS_39
    · skip
      refine lv_iload_n hx hb dX0_pendingForS_32 rfl (lv_at hl 0 rfl) ?_
      refine lv_sipush (v := 512) hx hb dX0_pendingForS_33 (by decide) ?_
      refine lv_ior hx hb dX0_pendingForS_36 ?_
      refine lv_istore_n (lv' := [(1, .int ((k 7) ||| 512)), (0, .ref h0)]) hx hb dX0_pendingForS_37 rfl hl (by decide) rfl (fun ls hl => ?_)
      refine lv_iload_n hx hb dX0_pendingForS_38 rfl (lv_at hl 0 rfl) ?_
      exact cf_roEnd hx hb hr hlocks (by simp only [cf_pend, if_pos c_1, if_neg c_2, if_neg cf_n10, if_pos cf_p00, ↓reduceIte]) dX0_pendingForS_39
  · skip
    refine lv_iload_n hx hb dX0_pendingForS_20 rfl (lv_at hl 0 rfl) ?_
    refine lv_bipush (v := 32) hx hb dX0_pendingForS_21 (by decide) ?_
    refine lv_ior hx hb dX0_pendingForS_23 ?_
    refine lv_istore_n (lv' := [(1, .int ((k 7) ||| 32)), (0, .ref h0)]) hx hb dX0_pendingForS_24 rfl hl (by decide) rfl (fun ls hl => ?_)
    refine lv_aload_n hx hb dX0_pendingForS_25 rfl (lv_at hl 1 rfl) ?_
    refine va_get (D := D) (ci := 0) (v := .int ln) (C := RX0) (T := TX0) (N := 6) hx hb hts hin0 hown hK hP 0 rfl rfl 4 (by decide) (hts (.fieldLink RX0 31 "ControlFile" "lineOn" "Z") (by decide +kernel)) (fun _ h9 => h9) rfl dX0_pendingForS_26 ?_
    refine lv_if_eq (tgt := 38) hx hb dX0_pendingForS_29 (by decide) (fun c_3 => ?_) (fun c_3 => ?_)
    · skip
      refine lv_iload_n hx hb dX0_pendingForS_38 rfl (lv_at hl 0 rfl) ?_
      exact cf_roEnd hx hb hr hlocks (by simp only [cf_pend, if_neg c_1, if_pos c_3, if_neg cf_n10, if_pos cf_p00, ↓reduceIte]) dX0_pendingForS_39
    · skip
      refine lv_iload_n hx hb dX0_pendingForS_32 rfl (lv_at hl 0 rfl) ?_
      refine lv_sipush (v := 512) hx hb dX0_pendingForS_33 (by decide) ?_
      refine lv_ior hx hb dX0_pendingForS_36 ?_
      refine lv_istore_n (lv' := [(1, .int (((k 7) ||| 32) ||| 512)), (0, .ref h0)]) hx hb dX0_pendingForS_37 rfl hl (by decide) rfl (fun ls hl => ?_)
      refine lv_iload_n hx hb dX0_pendingForS_38 rfl (lv_at hl 0 rfl) ?_
      exact cf_roEnd hx hb hr hlocks (by simp only [cf_pend, if_neg c_1, if_neg c_3, if_neg cf_n10, if_pos cf_p00, ↓reduceIte]) dX0_pendingForS_39
set_option maxHeartbeats 4000000 in
set_option maxRecDepth 100000 in
theorem c_told (l : Launch) (D : va_G) (z : Nat → Nat) (h0 h1 : Nat) (cA : ClassId) (k : Nat → Int32) (md : Int32) (tm al : Int64) (ln od : Int32) (x : Int32) : Met l yX0_told wsX0_told ({ frames := 1, cells := 0, slots := 0, locals := 21 } : Room) (cf_ro [.ref h0, .int x] D (cf_W 0 h0 h1 cA k md tm al ln od) [(cA, .int)] z) (vp_Si (fun r => r = cf_told k tm al ln x)) 0 0 (fun _ => False) := by
  refine Met.ofW (cc := cX0_told) (maxL := 2) (ret := (some .int)) (by decide) rfl ?_
  intro p e s m args below meth c s₁ B hml hv
  obtain ⟨rfl, hP, hK, hZ⟩ := hv
  have hx := B.exec
  have hb := B.bytes
  have hr := B.returns
  have hts := atoms_spec (ws := wsX0_told) B.pre
  have hown : s.vm.findClass RX0 = some m.cls := findClass_of_methodNamed B.named
  have hlocks := B.notSynchronized
  have hin0 : ∀ w ∈ wsX00, w ∈ wsX0_told := by decide +kernel
  have hS : va_S (fun _ => False) s.heap s.heap [] := va_S.rf
  have hl := lv_entry ([.ref h0, .int x]) (n := 2) (Nat.le_of_ble_eq_true rfl)
  rw [lg_entry_eq]
  generalize (lg_sl ([.ref h0, .int x]) ++ List.replicate (2 - (lg_sl ([.ref h0, .int x])).length) Slot.unset).toArray = ls at hl ⊢
  have hl : lv_has ls 2 [(0, .ref h0), (1, .int x)] := hl
  refine lv_iload_n hx hb dX0_told_0 rfl (lv_at hl 1 rfl) ?_
  by_cases c_1 : x = 7
  · skip
    refine lv_lookup (off := 59) (tgt := 60) hx hb dX0_told_1 (by decide) (by rw [c_1]; decide) (by decide) ?_
    refine lv_aload_n hx hb dX0_told_60 rfl (lv_at hl 0 rfl) ?_
    refine cf_callV (As := []) (rest := []) ⟨hx, hb, hml, hown, hts⟩ (c_pendingForS l D z h0 h1 cA k md tm al ln od) (cwV 0 hts gX0_told_X0_pendingForS rfl rfl rfl (by decide +kernel) ⟨Nat.le_of_ble_eq_true rfl, Nat.le_of_ble_eq_true rfl⟩) hP hK hZ hS (ci := 0) (q0 := 0) rfl rfl rfl rfl hl.1 rfl (Nat.le_of_ble_eq_true rfl) dX0_told_61 ⟨Nat.zero_le _, Nat.zero_le _⟩ ?_
    exact cf_roEnd hx hb hr hlocks (by simp only [cf_told, if_pos c_1, if_neg cf_n10, if_pos cf_p00, ↓reduceIte]) dX0_told_64
  by_cases c_2 : x = 10
  · skip
    refine lv_lookup (off := 64) (tgt := 65) hx hb dX0_told_1 (by decide) (by rw [c_2]; decide) (by decide) ?_
    refine lv_aload_n hx hb dX0_told_65 rfl (lv_at hl 0 rfl) ?_
    refine va_get (D := D) (ci := 0) (v := .ref h1) (C := RX0) (T := TX0) (N := 6) hx hb hts hin0 hown hK hP 0 rfl rfl 0 (by decide) (hts (.fieldLink RX0 9 "ControlFile" "kept" "[I") (by decide +kernel)) (fun _ h9 => h9) rfl dX0_told_66 ?_
    refine lv_bipush (v := 21) hx hb dX0_told_69 (by decide) ?_
    refine cf_ld 21 hx hb hK hP 1 0 rfl rfl rfl (by decide) dX0_told_71 ?_
    refine lv_aload_n hx hb dX0_told_72 rfl (lv_at hl 0 rfl) ?_
    refine va_get (D := D) (ci := 0) (v := .ref h1) (C := RX0) (T := TX0) (N := 6) hx hb hts hin0 hown hK hP 0 rfl rfl 0 (by decide) (hts (.fieldLink RX0 9 "ControlFile" "kept" "[I") (by decide +kernel)) (fun _ h9 => h9) rfl dX0_told_73 ?_
    refine lv_bipush (v := 20) hx hb dX0_told_76 (by decide) ?_
    refine cf_ld 20 hx hb hK hP 1 0 rfl rfl rfl (by decide) dX0_told_78 ?_
    refine lv_iand hx hb dX0_told_79 ?_
    refine lv_iconst (v := 1) hx hb dX0_told_80 (by decide) ?_
    refine lv_iushr (v := cf_ush ((k 21) &&& (k 20)) 1) hx hb dX0_told_81 rfl ?_
    exact cf_roEnd hx hb hr hlocks (by simp only [cf_told, if_neg c_1, if_pos c_2, if_neg cf_n10, if_pos cf_p00, ↓reduceIte]) dX0_told_82
  by_cases c_3 : x = 16
  · skip
    refine lv_lookup (off := 82) (tgt := 83) hx hb dX0_told_1 (by decide) (by rw [c_3]; decide) (by decide) ?_
    refine lv_aload_n hx hb dX0_told_83 rfl (lv_at hl 0 rfl) ?_
    refine va_get (D := D) (ci := 0) (v := .ref h1) (C := RX0) (T := TX0) (N := 6) hx hb hts hin0 hown hK hP 0 rfl rfl 0 (by decide) (hts (.fieldLink RX0 9 "ControlFile" "kept" "[I") (by decide +kernel)) (fun _ h9 => h9) rfl dX0_told_84 ?_
    refine lv_bipush (v := 24) hx hb dX0_told_87 (by decide) ?_
    refine cf_ld 24 hx hb hK hP 1 0 rfl rfl rfl (by decide) dX0_told_89 ?_
    refine lv_aload_n hx hb dX0_told_90 rfl (lv_at hl 0 rfl) ?_
    refine va_get (D := D) (ci := 0) (v := .ref h1) (C := RX0) (T := TX0) (N := 6) hx hb hts hin0 hown hK hP 0 rfl rfl 0 (by decide) (hts (.fieldLink RX0 9 "ControlFile" "kept" "[I") (by decide +kernel)) (fun _ h9 => h9) rfl dX0_told_91 ?_
    refine lv_bipush (v := 20) hx hb dX0_told_94 (by decide) ?_
    refine cf_ld 20 hx hb hK hP 1 0 rfl rfl rfl (by decide) dX0_told_96 ?_
    refine lv_iand hx hb dX0_told_97 ?_
    refine lv_iconst (v := 1) hx hb dX0_told_98 (by decide) ?_
    refine lv_iushr (v := cf_ush ((k 24) &&& (k 20)) 1) hx hb dX0_told_99 rfl ?_
    exact cf_roEnd hx hb hr hlocks (by simp only [cf_told, if_neg c_1, if_neg c_2, if_pos c_3, if_neg cf_n10, if_pos cf_p00, ↓reduceIte]) dX0_told_100
  by_cases c_4 : x = 23
  · skip
    refine lv_lookup (off := 100) (tgt := 101) hx hb dX0_told_1 (by decide) (by rw [c_4]; decide) (by decide) ?_
    refine lv_aload_n hx hb dX0_told_101 rfl (lv_at hl 0 rfl) ?_
    refine va_get (D := D) (ci := 0) (v := .ref h1) (C := RX0) (T := TX0) (N := 6) hx hb hts hin0 hown hK hP 0 rfl rfl 0 (by decide) (hts (.fieldLink RX0 9 "ControlFile" "kept" "[I") (by decide +kernel)) (fun _ h9 => h9) rfl dX0_told_102 ?_
    refine lv_bipush (v := 24) hx hb dX0_told_105 (by decide) ?_
    refine cf_ld 24 hx hb hK hP 1 0 rfl rfl rfl (by decide) dX0_told_107 ?_
    exact cf_roEnd hx hb hr hlocks (by simp only [cf_told, if_neg c_1, if_neg c_2, if_neg c_3, if_pos c_4, if_neg cf_n10, if_pos cf_p00, ↓reduceIte]) dX0_told_108
  by_cases c_5 : x = 27
  · skip
    refine lv_lookup (off := 108) (tgt := 109) hx hb dX0_told_1 (by decide) (by rw [c_5]; decide) (by decide) ?_
    refine lv_aload_n hx hb dX0_told_109 rfl (lv_at hl 0 rfl) ?_
    refine va_get (D := D) (ci := 0) (v := .long tm) (C := RX0) (T := TX0) (N := 6) hx hb hts hin0 hown hK hP 0 rfl rfl 2 (by decide) (hts (.fieldLink RX0 22 "ControlFile" "timeNow" "J") (by decide +kernel)) (fun _ h9 => h9) rfl dX0_told_110 ?_
    refine lv_l2i (v := tm.toInt32) hx hb dX0_told_113 rfl ?_
    exact cf_roEnd hx hb hr hlocks (by simp only [cf_told, if_neg c_1, if_neg c_2, if_neg c_3, if_neg c_4, if_pos c_5, if_neg cf_n10, if_pos cf_p00, ↓reduceIte]) dX0_told_114
  by_cases c_6 : x = 28
  · skip
    refine lv_lookup (off := 114) (tgt := 115) hx hb dX0_told_1 (by decide) (by rw [c_6]; decide) (by decide) ?_
    refine lv_aload_n hx hb dX0_told_115 rfl (lv_at hl 0 rfl) ?_
    refine va_get (D := D) (ci := 0) (v := .long tm) (C := RX0) (T := TX0) (N := 6) hx hb hts hin0 hown hK hP 0 rfl rfl 2 (by decide) (hts (.fieldLink RX0 22 "ControlFile" "timeNow" "J") (by decide +kernel)) (fun _ h9 => h9) rfl dX0_told_116 ?_
    refine lv_bipush (v := 32) hx hb dX0_told_119 (by decide) ?_
    refine lv_lushr (v := cf_lush tm 32) hx hb dX0_told_121 rfl ?_
    refine lv_l2i (v := (cf_lush tm 32).toInt32) hx hb dX0_told_122 rfl ?_
    exact cf_roEnd hx hb hr hlocks (by simp only [cf_told, if_neg c_1, if_neg c_2, if_neg c_3, if_neg c_4, if_neg c_5, if_pos c_6, if_neg cf_n10, if_pos cf_p00, ↓reduceIte]) dX0_told_123
  refine lv_lookup (off := 123) (tgt := 124) hx hb dX0_told_1 (by decide) (show Op.lookupswitch.offset [(7, 59), (10, 64), (16, 82), (23, 100), (27, 108), (28, 114)] 123 (x).toInt = 123 by rw [Op.lookupswitch.offset_cons, if_neg (cf_ne (a := 7) (by decide) c_1), Op.lookupswitch.offset_cons, if_neg (cf_ne (a := 10) (by decide) c_2), Op.lookupswitch.offset_cons, if_neg (cf_ne (a := 16) (by decide) c_3), Op.lookupswitch.offset_cons, if_neg (cf_ne (a := 23) (by decide) c_4), Op.lookupswitch.offset_cons, if_neg (cf_ne (a := 27) (by decide) c_5), Op.lookupswitch.offset_cons, if_neg (cf_ne (a := 28) (by decide) c_6), Op.lookupswitch.offset_nil]) (by decide) ?_
  refine lv_iload_n hx hb dX0_told_124 rfl (lv_at hl 1 rfl) ?_
  refine lv_if_lt (tgt := 146) hx hb dX0_told_125 (by decide) (fun c_7 => ?_) (fun c_7 => ?_)
  · skip
    refine lv_iconst (v := 0) hx hb dX0_told_146 (by decide) ?_
    exact cf_roEnd hx hb hr hlocks (by simp only [cf_told, if_neg c_1, if_neg c_2, if_neg c_3, if_neg c_4, if_neg c_5, if_neg c_6, if_pos c_7, if_neg cf_n10, if_pos cf_p00, ↓reduceIte]) dX0_told_147
  · skip
    refine lv_iload_n hx hb dX0_told_128 rfl (lv_at hl 1 rfl) ?_
    refine lv_aload_n hx hb dX0_told_129 rfl (lv_at hl 0 rfl) ?_
    refine va_get (D := D) (ci := 0) (v := .ref h1) (C := RX0) (T := TX0) (N := 6) hx hb hts hin0 hown hK hP 0 rfl rfl 0 (by decide) (hts (.fieldLink RX0 9 "ControlFile" "kept" "[I") (by decide +kernel)) (fun _ h9 => h9) rfl dX0_told_130 ?_
    refine va_alen (v := 29) hx hb hK hP 1 0 rfl rfl rfl dX0_told_133 ?_
    refine lv_icmp_ge (tgt := 146) hx hb dX0_told_134 (by decide) (fun c_8 => ?_) (fun c_8 => ?_)
    · skip
      refine lv_iconst (v := 0) hx hb dX0_told_146 (by decide) ?_
      exact cf_roEnd hx hb hr hlocks (by simp only [cf_told, if_neg c_1, if_neg c_2, if_neg c_3, if_neg c_4, if_neg c_5, if_neg c_6, if_neg c_7, if_pos c_8, if_neg cf_n10, if_pos cf_p00, ↓reduceIte]) dX0_told_147
    · skip
      refine lv_aload_n hx hb dX0_told_137 rfl (lv_at hl 0 rfl) ?_
      refine va_get (D := D) (ci := 0) (v := .ref h1) (C := RX0) (T := TX0) (N := 6) hx hb hts hin0 hown hK hP 0 rfl rfl 0 (by decide) (hts (.fieldLink RX0 9 "ControlFile" "kept" "[I") (by decide +kernel)) (fun _ h9 => h9) rfl dX0_told_138 ?_
      refine lv_iload_n hx hb dX0_told_141 rfl (lv_at hl 1 rfl) ?_
      refine va_iald hx hb hK hP 1 0 rfl rfl (cf_in c_7 c_8) dX0_told_142 ?_
      refine lv_goto (tgt := 147) hx hb dX0_told_143 (by decide) ?_
      exact cf_roEnd hx hb hr hlocks (by simp only [cf_told, if_neg c_1, if_neg c_2, if_neg c_3, if_neg c_4, if_neg c_5, if_neg c_6, if_neg c_7, if_neg c_8, if_neg cf_n10, if_pos cf_p00, ↓reduceIte]) dX0_told_147
set_option maxHeartbeats 4000000 in
set_option maxRecDepth 100000 in
theorem c_old (l : Launch) (D : va_G) (z : Nat → Nat) (h0 h1 : Nat) (cA : ClassId) (k : Nat → Int32) (md : Int32) (tm al : Int64) (ln od : Int32) : Met l yX0_old wsX0_old ({ frames := 0, cells := 0, slots := 0, locals := 0 } : Room) (cf_ro [.ref h0] D (cf_W 0 h0 h1 cA k md tm al ln od) [(cA, .int)] z) (vp_Si (fun r => r = od)) 0 0 (fun _ => False) := by
  refine Met.ofW (cc := cX0_old) (maxL := 1) (ret := (some .int)) (by decide) rfl ?_
  intro p e s m args below meth c s₁ B hml hv
  obtain ⟨rfl, hP, hK, hZ⟩ := hv
  have hx := B.exec
  have hb := B.bytes
  have hr := B.returns
  have hts := atoms_spec (ws := wsX0_old) B.pre
  have hown : s.vm.findClass RX0 = some m.cls := findClass_of_methodNamed B.named
  have hlocks := B.notSynchronized
  have hin0 : ∀ w ∈ wsX00, w ∈ wsX0_old := by decide +kernel
  have hS : va_S (fun _ => False) s.heap s.heap [] := va_S.rf
  have hl := lv_entry ([.ref h0]) (n := 1) (Nat.le_of_ble_eq_true rfl)
  rw [lg_entry_eq]
  generalize (lg_sl ([.ref h0]) ++ List.replicate (1 - (lg_sl ([.ref h0])).length) Slot.unset).toArray = ls at hl ⊢
  have hl : lv_has ls 1 [(0, .ref h0)] := hl
  refine lv_aload_n hx hb dX0_old_0 rfl (lv_at hl 0 rfl) ?_
  refine va_get (D := D) (ci := 0) (v := .int od) (C := RX0) (T := TX0) (N := 6) hx hb hts hin0 hown hK hP 0 rfl rfl 5 (by decide) (hts (.fieldLink RX0 58 "ControlFile" "oldValue" "I") (by decide +kernel)) (fun _ h9 => h9) rfl dX0_old_1 ?_
  exact cf_roEnd hx hb hr hlocks (rfl) dX0_old_4
set_option maxHeartbeats 4000000 in
set_option maxRecDepth 100000 in
theorem c_control (l : Launch) (D : va_G) (z : Nat → Nat) (h0 h1 : Nat) (cA : ClassId) (k : Nat → Int32) (md : Int32) (tm al : Int64) (ln od : Int32) (n : Int32) : Met l yX0_control wsX0_control ({ frames := 2, cells := 0, slots := 0, locals := 42 } : Room) (cf_ro [.ref h0, .int n] D (cf_W 0 h0 h1 cA k md tm al ln od) [(cA, .int)] z) (vp_Si (fun r => r = cf_told k tm al ln (cf_slot n))) 0 0 (fun _ => False) := by
  refine Met.ofW (cc := cX0_control) (maxL := 2) (ret := (some .int)) (by decide) rfl ?_
  intro p e s m args below meth c s₁ B hml hv
  obtain ⟨rfl, hP, hK, hZ⟩ := hv
  have hx := B.exec
  have hb := B.bytes
  have hr := B.returns
  have hts := atoms_spec (ws := wsX0_control) B.pre
  have hown : s.vm.findClass RX0 = some m.cls := findClass_of_methodNamed B.named
  have hlocks := B.notSynchronized
  have hS : va_S (fun _ => False) s.heap s.heap [] := va_S.rf
  have hl := lv_entry ([.ref h0, .int n]) (n := 2) (Nat.le_of_ble_eq_true rfl)
  rw [lg_entry_eq]
  generalize (lg_sl ([.ref h0, .int n]) ++ List.replicate (2 - (lg_sl ([.ref h0, .int n])).length) Slot.unset).toArray = ls at hl ⊢
  have hl : lv_has ls 2 [(0, .ref h0), (1, .int n)] := hl
  refine lv_aload_n hx hb dX0_control_0 rfl (lv_at hl 0 rfl) ?_
  refine lv_iload_n hx hb dX0_control_1 rfl (lv_at hl 1 rfl) ?_
  refine cf_callS (As := [.int n]) (rest := [.ref h0]) ⟨hx, hb, hml, hown, hts⟩ (c_slotOf l D z n) (va_cwS 1 hts gX0_control_X0_slotOf rfl rfl rfl (by decide +kernel) ⟨Nat.le_of_ble_eq_true rfl, Nat.le_of_ble_eq_true rfl⟩) (hP.sub (ws' := []) [] rfl) (hK.sub (tys' := []) [] rfl) hZ hS rfl hl.1 rfl (Nat.le_of_ble_eq_true rfl) dX0_control_2 ⟨Nat.zero_le _, Nat.zero_le _⟩ ?_
  refine cf_callV (As := [.int (cf_slot n)]) (rest := []) ⟨hx, hb, hml, hown, hts⟩ (c_told l D z h0 h1 cA k md tm al ln od (cf_slot n)) (cwV 1 hts gX0_control_X0_told rfl rfl rfl (by decide +kernel) ⟨Nat.le_of_ble_eq_true rfl, Nat.le_of_ble_eq_true rfl⟩) hP hK hZ hS (ci := 0) (q0 := 0) rfl rfl rfl rfl hl.1 rfl (Nat.le_of_ble_eq_true rfl) dX0_control_5 ⟨Nat.zero_le _, Nat.zero_le _⟩ ?_
  exact cf_roEnd hx hb hr hlocks (rfl) dX0_control_8
set_option maxHeartbeats 4000000 in
set_option maxRecDepth 100000 in
theorem c_used (l : Launch) (D : va_G) (z : Nat → Nat) (h0 h1 : Nat) (cA : ClassId) (k : Nat → Int32) (md : Int32) (tm al : Int64) (ln od : Int32) : Met l yX0_used wsX0_used ({ frames := 2, cells := 0, slots := 0, locals := 42 } : Room) (cf_ro [.ref h0] D (cf_W 0 h0 h1 cA k md tm al ln od) [(cA, .int)] z) (vp_Si (fun r => r = cf_used k tm al ln)) 0 0 (fun _ => False) := by
  refine Met.ofW (cc := cX0_used) (maxL := 3) (ret := (some .int)) (by decide) rfl ?_
  intro p e s m args below meth c s₁ B hml hv
  obtain ⟨rfl, hP, hK, hZ⟩ := hv
  have hx := B.exec
  have hb := B.bytes
  have hr := B.returns
  have hts := atoms_spec (ws := wsX0_used) B.pre
  have hown : s.vm.findClass RX0 = some m.cls := findClass_of_methodNamed B.named
  have hlocks := B.notSynchronized
  have hS : va_S (fun _ => False) s.heap s.heap [] := va_S.rf
  have hl := lv_entry ([.ref h0]) (n := 3) (Nat.le_of_ble_eq_true rfl)
  rw [lg_entry_eq]
  generalize (lg_sl ([.ref h0]) ++ List.replicate (3 - (lg_sl ([.ref h0])).length) Slot.unset).toArray = ls at hl ⊢
  have hl : lv_has ls 3 [(0, .ref h0)] := hl
  refine lv_iconst (v := 0) hx hb dX0_used_0 (by decide) ?_
  refine lv_istore_n (lv' := [(1, .int 0), (0, .ref h0)]) hx hb dX0_used_1 rfl hl (by decide) rfl (fun ls hl => ?_)
  refine lv_iconst (v := 0) hx hb dX0_used_2 (by decide) ?_
  refine lv_istore_n (lv' := [(2, .int 0), (1, .int 0), (0, .ref h0)]) hx hb dX0_used_3 rfl hl (by decide) rfl (fun ls hl => ?_)
  refine cf_ind (G := W p l e _ s m _ below meth c s.heap [] 0 0 _) 29 (fun i ls => lv_has ls 3 [(2, .int (nI i)), (1, .int (cf_cnt (cf_tf k tm al ln) i)), (0, .ref h0)]) ?_ ?_ 29 0 ls rfl (by omega) hl
  · intro i ls hi hl ih
    have hl : lv_has ls 3 [(2, .int (nI i)), (1, .int (cf_cnt (cf_tf k tm al ln) i)), (0, .ref h0)] := hl
    refine lv_iload_n hx hb dX0_used_4 rfl (lv_at hl 0 rfl) ?_
    refine lv_bipush (v := 29) hx hb dX0_used_5 (by decide) ?_
    refine lv_icmp_ge (tgt := 27) hx hb dX0_used_7 (by decide) (fun c_1 => ?_) (fun c_1 => ?_)
    · skip
      exact absurd c_1 (show ¬ (29 : Int32) ≤ nI i from nI_ge hi (by decide))
    · skip
      refine lv_aload_n hx hb dX0_used_10 rfl (lv_at hl 2 rfl) ?_
      refine lv_iload_n hx hb dX0_used_11 rfl (lv_at hl 0 rfl) ?_
      refine cf_callV (As := [.int (nI i)]) (rest := []) ⟨hx, hb, hml, hown, hts⟩ (c_told l D z h0 h1 cA k md tm al ln od (nI i)) (cwV 1 hts gX0_used_X0_told rfl rfl rfl (by decide +kernel) ⟨Nat.le_of_ble_eq_true rfl, Nat.le_of_ble_eq_true rfl⟩) hP hK hZ hS (ci := 0) (q0 := 0) rfl rfl rfl rfl hl.1 rfl (Nat.le_of_ble_eq_true rfl) dX0_used_12 ⟨Nat.zero_le _, Nat.zero_le _⟩ ?_
      refine lv_if_eq (tgt := 21) hx hb dX0_used_15 (by decide) (fun c_2 => ?_) (fun c_2 => ?_)
      · skip
        refine lv_iinc (v := nI (i + 1)) (lv' := [(2, .int (nI (i + 1))), (1, .int (cf_cnt (cf_tf k tm al ln) i)), (0, .ref h0)]) hx hb dX0_used_21 hl (k := 0) rfl (nI_1 i) (by decide) rfl (fun ls hl => ?_)
        refine lv_goto (tgt := 4) hx hb dX0_used_24 (by decide) ?_
        refine ih ls ?_
        show lv_has ls 3 [(2, .int (nI (i + 1))), (1, .int (cf_cnt (cf_tf k tm al ln) (i + 1))), (0, .ref h0)]
        rw [cf_cnt, if_pos (show cf_tf k tm al ln i = 0 from c_2)]
        exact lv_sub hl [0, 1, 2] rfl
      · skip
        refine lv_iinc (v := (cf_cnt (cf_tf k tm al ln) i) + 1) (lv' := [(1, .int ((cf_cnt (cf_tf k tm al ln) i) + 1)), (2, .int (nI i)), (0, .ref h0)]) hx hb dX0_used_18 hl (k := 1) rfl rfl (by decide) rfl (fun ls hl => ?_)
        refine lv_iinc (v := nI (i + 1)) (lv' := [(2, .int (nI (i + 1))), (1, .int ((cf_cnt (cf_tf k tm al ln) i) + 1)), (0, .ref h0)]) hx hb dX0_used_21 hl (k := 1) rfl (nI_1 i) (by decide) rfl (fun ls hl => ?_)
        refine lv_goto (tgt := 4) hx hb dX0_used_24 (by decide) ?_
        refine ih ls ?_
        show lv_has ls 3 [(2, .int (nI (i + 1))), (1, .int (cf_cnt (cf_tf k tm al ln) (i + 1))), (0, .ref h0)]
        rw [cf_cnt, if_neg (show ¬ (cf_tf k tm al ln i = 0) from c_2)]
        exact lv_sub hl [0, 1, 2] rfl
  · intro ls hl
    have hl : lv_has ls 3 [(2, .int (nI 29)), (1, .int (cf_cnt (cf_tf k tm al ln) 29)), (0, .ref h0)] := hl
    refine lv_iload_n hx hb dX0_used_4 rfl (lv_at hl 0 rfl) ?_
    refine lv_bipush (v := 29) hx hb dX0_used_5 (by decide) ?_
    refine lv_icmp_ge (tgt := 27) hx hb dX0_used_7 (by decide) (fun c_3 => ?_) (fun c_3 => ?_)
    · skip
      refine lv_iload_n hx hb dX0_used_27 rfl (lv_at hl 1 rfl) ?_
      exact cf_roEnd hx hb hr hlocks rfl dX0_used_28
    · skip
      exact absurd (show (29 : Int32) ≤ nI 29 by decide) c_3
set_option maxHeartbeats 4000000 in
set_option maxRecDepth 100000 in
theorem c_dueForS (l : Launch) (D : va_G) (z : Nat → Nat) (h0 h1 : Nat) (cA : ClassId) (k : Nat → Int32) (md : Int32) (tm al : Int64) (ln od : Int32) : Met l yX0_dueForS wsX0_dueForS ({ frames := 1, cells := 0, slots := 0, locals := 22 } : Room) (cf_ro [.ref h0] D (cf_W 0 h0 h1 cA k md tm al ln od) [(cA, .int)] z) (vp_Si (fun r => r = cf_dS k md tm al ln)) 0 0 (fun _ => False) := by
  refine Met.ofW (cc := cX0_dueForS) (maxL := 3) (ret := (some .int)) (by decide) rfl ?_
  intro p e s m args below meth c s₁ B hml hv
  obtain ⟨rfl, hP, hK, hZ⟩ := hv
  have hx := B.exec
  have hb := B.bytes
  have hr := B.returns
  have hts := atoms_spec (ws := wsX0_dueForS) B.pre
  have hown : s.vm.findClass RX0 = some m.cls := findClass_of_methodNamed B.named
  have hlocks := B.notSynchronized
  have hin0 : ∀ w ∈ wsX00, w ∈ wsX0_dueForS := by decide +kernel
  have hS : va_S (fun _ => False) s.heap s.heap [] := va_S.rf
  have hl := lv_entry ([.ref h0]) (n := 3) (Nat.le_of_ble_eq_true rfl)
  rw [lg_entry_eq]
  generalize (lg_sl ([.ref h0]) ++ List.replicate (3 - (lg_sl ([.ref h0])).length) Slot.unset).toArray = ls at hl ⊢
  have hl : lv_has ls 3 [(0, .ref h0)] := hl
  refine lv_aload_n hx hb dX0_dueForS_0 rfl (lv_at hl 0 rfl) ?_
  refine va_get (D := D) (ci := 0) (v := .int md) (C := RX0) (T := TX0) (N := 6) hx hb hts hin0 hown hK hP 0 rfl rfl 1 (by decide) (hts (.fieldLink RX0 16 "ControlFile" "modeNow" "I") (by decide +kernel)) (fun _ h9 => h9) rfl dX0_dueForS_1 ?_
  refine lv_iconst (v := 1) hx hb dX0_dueForS_4 (by decide) ?_
  refine lv_icmp_ne (tgt := 21) hx hb dX0_dueForS_5 (by decide) (fun c_1 => ?_) (fun c_1 => ?_)
  · skip
    refine lv_aload_n hx hb dX0_dueForS_21 rfl (lv_at hl 0 rfl) ?_
    refine cf_callV (As := []) (rest := []) ⟨hx, hb, hml, hown, hts⟩ (c_pendingForS l D z h0 h1 cA k md tm al ln od) (cwV 0 hts gX0_dueForS_X0_pendingForS rfl rfl rfl (by decide +kernel) ⟨Nat.le_of_ble_eq_true rfl, Nat.le_of_ble_eq_true rfl⟩) hP hK hZ hS (ci := 0) (q0 := 0) rfl rfl rfl rfl hl.1 rfl (Nat.le_of_ble_eq_true rfl) dX0_dueForS_22 ⟨Nat.zero_le _, Nat.zero_le _⟩ ?_
    refine lv_aload_n hx hb dX0_dueForS_25 rfl (lv_at hl 0 rfl) ?_
    refine va_get (D := D) (ci := 0) (v := .ref h1) (C := RX0) (T := TX0) (N := 6) hx hb hts hin0 hown hK hP 0 rfl rfl 0 (by decide) (hts (.fieldLink RX0 9 "ControlFile" "kept" "[I") (by decide +kernel)) (fun _ h9 => h9) rfl dX0_dueForS_26 ?_
    refine lv_iconst (v := 1) hx hb dX0_dueForS_29 (by decide) ?_
    refine cf_ld 1 hx hb hK hP 1 0 rfl rfl rfl (by decide) dX0_dueForS_30 ?_
    refine lv_iand hx hb dX0_dueForS_31 ?_
    refine lv_istore_n (lv' := [(1, .int ((cf_pend k tm al ln) &&& (k 1))), (0, .ref h0)]) hx hb dX0_dueForS_32 rfl hl (by decide) rfl (fun ls hl => ?_)
    refine lv_aload_n hx hb dX0_dueForS_33 rfl (lv_at hl 1 rfl) ?_
    refine va_get (D := D) (ci := 0) (v := .ref h1) (C := RX0) (T := TX0) (N := 6) hx hb hts hin0 hown hK hP 0 rfl rfl 0 (by decide) (hts (.fieldLink RX0 9 "ControlFile" "kept" "[I") (by decide +kernel)) (fun _ h9 => h9) rfl dX0_dueForS_34 ?_
    refine lv_bipush (v := 24) hx hb dX0_dueForS_37 (by decide) ?_
    refine cf_ld 24 hx hb hK hP 1 0 rfl rfl rfl (by decide) dX0_dueForS_39 ?_
    refine lv_aload_n hx hb dX0_dueForS_40 rfl (lv_at hl 1 rfl) ?_
    refine va_get (D := D) (ci := 0) (v := .ref h1) (C := RX0) (T := TX0) (N := 6) hx hb hts hin0 hown hK hP 0 rfl rfl 0 (by decide) (hts (.fieldLink RX0 9 "ControlFile" "kept" "[I") (by decide +kernel)) (fun _ h9 => h9) rfl dX0_dueForS_41 ?_
    refine lv_bipush (v := 21) hx hb dX0_dueForS_44 (by decide) ?_
    refine cf_ld 21 hx hb hK hP 1 0 rfl rfl rfl (by decide) dX0_dueForS_46 ?_
    refine lv_iand hx hb dX0_dueForS_47 ?_
    refine lv_aload_n hx hb dX0_dueForS_48 rfl (lv_at hl 1 rfl) ?_
    refine va_get (D := D) (ci := 0) (v := .ref h1) (C := RX0) (T := TX0) (N := 6) hx hb hts hin0 hown hK hP 0 rfl rfl 0 (by decide) (hts (.fieldLink RX0 9 "ControlFile" "kept" "[I") (by decide +kernel)) (fun _ h9 => h9) rfl dX0_dueForS_49 ?_
    refine lv_bipush (v := 20) hx hb dX0_dueForS_52 (by decide) ?_
    refine cf_ld 20 hx hb hK hP 1 0 rfl rfl rfl (by decide) dX0_dueForS_54 ?_
    refine lv_iconst (v := -1) hx hb dX0_dueForS_55 (by decide) ?_
    refine lv_ixor hx hb dX0_dueForS_56 ?_
    refine lv_iand hx hb dX0_dueForS_57 ?_
    refine lv_istore_n (lv' := [(2, .int (((k 24) &&& (k 21)) &&& ((k 20) ^^^ (-1)))), (1, .int ((cf_pend k tm al ln) &&& (k 1))), (0, .ref h0)]) hx hb dX0_dueForS_58 rfl hl (by decide) rfl (fun ls hl => ?_)
    refine va_gets (C := RX0) (ref := RX0) hx hb hZ.2.2.1.1 hS hown (hts (.fieldLink RX0 94 "ControlFile" "S_ORDER" "[I") (by decide +kernel)) (fun _ h9 => h9) dX0_dueForS_59 ?_
    refine lv_iload_n hx hb dX0_dueForS_62 rfl (lv_at hl 1 rfl) ?_
    refine lv_iload_n hx hb dX0_dueForS_63 rfl (lv_at hl 0 rfl) ?_
    refine lv_ior hx hb dX0_dueForS_64 ?_
    refine cf_callS (As := [.ref (z 2), .int (((cf_pend k tm al ln) &&& (k 1)) ||| (((k 24) &&& (k 21)) &&& ((k 20) ^^^ (-1))))]) (rest := []) ⟨hx, hb, hml, hown, hts⟩ (c_firstS l D z (((cf_pend k tm al ln) &&& (k 1)) ||| (((k 24) &&& (k 21)) &&& ((k 20) ^^^ (-1))))) (va_cwS 2 hts gX0_dueForS_X0_firstOf rfl rfl rfl (by decide +kernel) ⟨Nat.le_of_ble_eq_true rfl, Nat.le_of_ble_eq_true rfl⟩) (hP.sub (ws' := []) [] rfl) (hK.sub (tys' := []) [] rfl) hZ hS rfl hl.1 rfl (Nat.le_of_ble_eq_true rfl) dX0_dueForS_65 ⟨Nat.zero_le _, Nat.zero_le _⟩ ?_
    exact cf_roEnd hx hb hr hlocks (by simp only [cf_dS, cf_dS1, if_neg c_1, if_neg cf_n10, if_pos cf_p00, ↓reduceIte]) dX0_dueForS_68
  · skip
    refine lv_aload_n hx hb dX0_dueForS_8 rfl (lv_at hl 0 rfl) ?_
    refine va_get (D := D) (ci := 0) (v := .ref h1) (C := RX0) (T := TX0) (N := 6) hx hb hts hin0 hown hK hP 0 rfl rfl 0 (by decide) (hts (.fieldLink RX0 9 "ControlFile" "kept" "[I") (by decide +kernel)) (fun _ h9 => h9) rfl dX0_dueForS_9 ?_
    refine lv_iconst (v := 0) hx hb dX0_dueForS_12 (by decide) ?_
    refine cf_ld 0 hx hb hK hP 1 0 rfl rfl rfl (by decide) dX0_dueForS_13 ?_
    refine lv_iconst (v := 2) hx hb dX0_dueForS_14 (by decide) ?_
    refine lv_iand hx hb dX0_dueForS_15 ?_
    refine lv_if_ne (tgt := 21) hx hb dX0_dueForS_16 (by decide) (fun c_2 => ?_) (fun c_2 => ?_)
    · skip
      refine lv_aload_n hx hb dX0_dueForS_21 rfl (lv_at hl 0 rfl) ?_
      refine cf_callV (As := []) (rest := []) ⟨hx, hb, hml, hown, hts⟩ (c_pendingForS l D z h0 h1 cA k md tm al ln od) (cwV 0 hts gX0_dueForS_X0_pendingForS rfl rfl rfl (by decide +kernel) ⟨Nat.le_of_ble_eq_true rfl, Nat.le_of_ble_eq_true rfl⟩) hP hK hZ hS (ci := 0) (q0 := 0) rfl rfl rfl rfl hl.1 rfl (Nat.le_of_ble_eq_true rfl) dX0_dueForS_22 ⟨Nat.zero_le _, Nat.zero_le _⟩ ?_
      refine lv_aload_n hx hb dX0_dueForS_25 rfl (lv_at hl 0 rfl) ?_
      refine va_get (D := D) (ci := 0) (v := .ref h1) (C := RX0) (T := TX0) (N := 6) hx hb hts hin0 hown hK hP 0 rfl rfl 0 (by decide) (hts (.fieldLink RX0 9 "ControlFile" "kept" "[I") (by decide +kernel)) (fun _ h9 => h9) rfl dX0_dueForS_26 ?_
      refine lv_iconst (v := 1) hx hb dX0_dueForS_29 (by decide) ?_
      refine cf_ld 1 hx hb hK hP 1 0 rfl rfl rfl (by decide) dX0_dueForS_30 ?_
      refine lv_iand hx hb dX0_dueForS_31 ?_
      refine lv_istore_n (lv' := [(1, .int ((cf_pend k tm al ln) &&& (k 1))), (0, .ref h0)]) hx hb dX0_dueForS_32 rfl hl (by decide) rfl (fun ls hl => ?_)
      refine lv_aload_n hx hb dX0_dueForS_33 rfl (lv_at hl 1 rfl) ?_
      refine va_get (D := D) (ci := 0) (v := .ref h1) (C := RX0) (T := TX0) (N := 6) hx hb hts hin0 hown hK hP 0 rfl rfl 0 (by decide) (hts (.fieldLink RX0 9 "ControlFile" "kept" "[I") (by decide +kernel)) (fun _ h9 => h9) rfl dX0_dueForS_34 ?_
      refine lv_bipush (v := 24) hx hb dX0_dueForS_37 (by decide) ?_
      refine cf_ld 24 hx hb hK hP 1 0 rfl rfl rfl (by decide) dX0_dueForS_39 ?_
      refine lv_aload_n hx hb dX0_dueForS_40 rfl (lv_at hl 1 rfl) ?_
      refine va_get (D := D) (ci := 0) (v := .ref h1) (C := RX0) (T := TX0) (N := 6) hx hb hts hin0 hown hK hP 0 rfl rfl 0 (by decide) (hts (.fieldLink RX0 9 "ControlFile" "kept" "[I") (by decide +kernel)) (fun _ h9 => h9) rfl dX0_dueForS_41 ?_
      refine lv_bipush (v := 21) hx hb dX0_dueForS_44 (by decide) ?_
      refine cf_ld 21 hx hb hK hP 1 0 rfl rfl rfl (by decide) dX0_dueForS_46 ?_
      refine lv_iand hx hb dX0_dueForS_47 ?_
      refine lv_aload_n hx hb dX0_dueForS_48 rfl (lv_at hl 1 rfl) ?_
      refine va_get (D := D) (ci := 0) (v := .ref h1) (C := RX0) (T := TX0) (N := 6) hx hb hts hin0 hown hK hP 0 rfl rfl 0 (by decide) (hts (.fieldLink RX0 9 "ControlFile" "kept" "[I") (by decide +kernel)) (fun _ h9 => h9) rfl dX0_dueForS_49 ?_
      refine lv_bipush (v := 20) hx hb dX0_dueForS_52 (by decide) ?_
      refine cf_ld 20 hx hb hK hP 1 0 rfl rfl rfl (by decide) dX0_dueForS_54 ?_
      refine lv_iconst (v := -1) hx hb dX0_dueForS_55 (by decide) ?_
      refine lv_ixor hx hb dX0_dueForS_56 ?_
      refine lv_iand hx hb dX0_dueForS_57 ?_
      refine lv_istore_n (lv' := [(2, .int (((k 24) &&& (k 21)) &&& ((k 20) ^^^ (-1)))), (1, .int ((cf_pend k tm al ln) &&& (k 1))), (0, .ref h0)]) hx hb dX0_dueForS_58 rfl hl (by decide) rfl (fun ls hl => ?_)
      refine va_gets (C := RX0) (ref := RX0) hx hb hZ.2.2.1.1 hS hown (hts (.fieldLink RX0 94 "ControlFile" "S_ORDER" "[I") (by decide +kernel)) (fun _ h9 => h9) dX0_dueForS_59 ?_
      refine lv_iload_n hx hb dX0_dueForS_62 rfl (lv_at hl 1 rfl) ?_
      refine lv_iload_n hx hb dX0_dueForS_63 rfl (lv_at hl 0 rfl) ?_
      refine lv_ior hx hb dX0_dueForS_64 ?_
      refine cf_callS (As := [.ref (z 2), .int (((cf_pend k tm al ln) &&& (k 1)) ||| (((k 24) &&& (k 21)) &&& ((k 20) ^^^ (-1))))]) (rest := []) ⟨hx, hb, hml, hown, hts⟩ (c_firstS l D z (((cf_pend k tm al ln) &&& (k 1)) ||| (((k 24) &&& (k 21)) &&& ((k 20) ^^^ (-1))))) (va_cwS 2 hts gX0_dueForS_X0_firstOf rfl rfl rfl (by decide +kernel) ⟨Nat.le_of_ble_eq_true rfl, Nat.le_of_ble_eq_true rfl⟩) (hP.sub (ws' := []) [] rfl) (hK.sub (tys' := []) [] rfl) hZ hS rfl hl.1 rfl (Nat.le_of_ble_eq_true rfl) dX0_dueForS_65 ⟨Nat.zero_le _, Nat.zero_le _⟩ ?_
      exact cf_roEnd hx hb hr hlocks (by simp only [cf_dS, cf_dS1, if_pos c_1, if_neg c_2, if_neg cf_n10, if_pos cf_p00, ↓reduceIte]) dX0_dueForS_68
    · skip
      refine lv_iconst (v := -1) hx hb dX0_dueForS_19 (by decide) ?_
      exact cf_roEnd hx hb hr hlocks (by simp only [cf_dS, cf_dS1, if_pos c_1, if_pos c_2, if_neg cf_n10, if_pos cf_p00, ↓reduceIte]) dX0_dueForS_20
set_option maxHeartbeats 4000000 in
set_option maxRecDepth 100000 in
theorem c_dueForVs (l : Launch) (D : va_G) (z : Nat → Nat) (h0 h1 : Nat) (cA : ClassId) (k : Nat → Int32) (md : Int32) (tm al : Int64) (ln od : Int32) : Met l yX0_dueForVs wsX0_dueForVs ({ frames := 1, cells := 0, slots := 0, locals := 22 } : Room) (cf_ro [.ref h0] D (cf_W 0 h0 h1 cA k md tm al ln od) [(cA, .int)] z) (vp_Si (fun r => r = cf_dV k md)) 0 0 (fun _ => False) := by
  refine Met.ofW (cc := cX0_dueForVs) (maxL := 3) (ret := (some .int)) (by decide) rfl ?_
  intro p e s m args below meth c s₁ B hml hv
  obtain ⟨rfl, hP, hK, hZ⟩ := hv
  have hx := B.exec
  have hb := B.bytes
  have hr := B.returns
  have hts := atoms_spec (ws := wsX0_dueForVs) B.pre
  have hown : s.vm.findClass RX0 = some m.cls := findClass_of_methodNamed B.named
  have hlocks := B.notSynchronized
  have hin0 : ∀ w ∈ wsX00, w ∈ wsX0_dueForVs := by decide +kernel
  have hS : va_S (fun _ => False) s.heap s.heap [] := va_S.rf
  have hl := lv_entry ([.ref h0]) (n := 3) (Nat.le_of_ble_eq_true rfl)
  rw [lg_entry_eq]
  generalize (lg_sl ([.ref h0]) ++ List.replicate (3 - (lg_sl ([.ref h0])).length) Slot.unset).toArray = ls at hl ⊢
  have hl : lv_has ls 3 [(0, .ref h0)] := hl
  refine lv_aload_n hx hb dX0_dueForVs_0 rfl (lv_at hl 0 rfl) ?_
  refine va_get (D := D) (ci := 0) (v := .int md) (C := RX0) (T := TX0) (N := 6) hx hb hts hin0 hown hK hP 0 rfl rfl 1 (by decide) (hts (.fieldLink RX0 16 "ControlFile" "modeNow" "I") (by decide +kernel)) (fun _ h9 => h9) rfl dX0_dueForVs_1 ?_
  refine lv_iconst (v := 2) hx hb dX0_dueForVs_4 (by decide) ?_
  refine lv_icmp_eq (tgt := 28) hx hb dX0_dueForVs_5 (by decide) (fun c_1 => ?_) (fun c_1 => ?_)
  · skip
    refine lv_iconst (v := 1) hx hb dX0_dueForVs_28 (by decide) ?_
    refine lv_goto (tgt := 33) hx hb dX0_dueForVs_29 (by decide) ?_
    refine lv_istore_n (lv' := [(1, .int 1), (0, .ref h0)]) hx hb dX0_dueForVs_33 rfl hl (by decide) rfl (fun ls hl => ?_)
    refine lv_iload_n hx hb dX0_dueForVs_34 rfl (lv_at hl 0 rfl) ?_
    refine lv_if_ne (tgt := 40) hx hb dX0_dueForVs_35 (by decide) (fun c_2 => ?_) (fun c_2 => ?_)
    · skip
      refine va_gets (C := RX0) (ref := RX0) hx hb hZ.2.2.2.1 hS hown (hts (.fieldLink RX0 101 "ControlFile" "VS_ORDER" "[I") (by decide +kernel)) (fun _ h9 => h9) dX0_dueForVs_40 ?_
      refine lv_aload_n hx hb dX0_dueForVs_43 rfl (lv_at hl 1 rfl) ?_
      refine va_get (D := D) (ci := 0) (v := .ref h1) (C := RX0) (T := TX0) (N := 6) hx hb hts hin0 hown hK hP 0 rfl rfl 0 (by decide) (hts (.fieldLink RX0 9 "ControlFile" "kept" "[I") (by decide +kernel)) (fun _ h9 => h9) rfl dX0_dueForVs_44 ?_
      refine lv_bipush (v := 24) hx hb dX0_dueForVs_47 (by decide) ?_
      refine cf_ld 24 hx hb hK hP 1 0 rfl rfl rfl (by decide) dX0_dueForVs_49 ?_
      refine lv_aload_n hx hb dX0_dueForVs_50 rfl (lv_at hl 1 rfl) ?_
      refine va_get (D := D) (ci := 0) (v := .ref h1) (C := RX0) (T := TX0) (N := 6) hx hb hts hin0 hown hK hP 0 rfl rfl 0 (by decide) (hts (.fieldLink RX0 9 "ControlFile" "kept" "[I") (by decide +kernel)) (fun _ h9 => h9) rfl dX0_dueForVs_51 ?_
      refine lv_bipush (v := 21) hx hb dX0_dueForVs_54 (by decide) ?_
      refine cf_ld 21 hx hb hK hP 1 0 rfl rfl rfl (by decide) dX0_dueForVs_56 ?_
      refine lv_iand hx hb dX0_dueForVs_57 ?_
      refine lv_aload_n hx hb dX0_dueForVs_58 rfl (lv_at hl 1 rfl) ?_
      refine va_get (D := D) (ci := 0) (v := .ref h1) (C := RX0) (T := TX0) (N := 6) hx hb hts hin0 hown hK hP 0 rfl rfl 0 (by decide) (hts (.fieldLink RX0 9 "ControlFile" "kept" "[I") (by decide +kernel)) (fun _ h9 => h9) rfl dX0_dueForVs_59 ?_
      refine lv_bipush (v := 20) hx hb dX0_dueForVs_62 (by decide) ?_
      refine cf_ld 20 hx hb hK hP 1 0 rfl rfl rfl (by decide) dX0_dueForVs_64 ?_
      refine lv_iand hx hb dX0_dueForVs_65 ?_
      refine cf_callS (As := [.ref (z 3), .int (((k 24) &&& (k 21)) &&& (k 20))]) (rest := []) ⟨hx, hb, hml, hown, hts⟩ (c_firstV l D z (((k 24) &&& (k 21)) &&& (k 20))) (va_cwS 2 hts gX0_dueForVs_X0_firstOf rfl rfl rfl (by decide +kernel) ⟨Nat.le_of_ble_eq_true rfl, Nat.le_of_ble_eq_true rfl⟩) (hP.sub (ws' := []) [] rfl) (hK.sub (tys' := []) [] rfl) hZ hS rfl hl.1 rfl (Nat.le_of_ble_eq_true rfl) dX0_dueForVs_66 ⟨Nat.zero_le _, Nat.zero_le _⟩ ?_
      refine lv_istore_n (lv' := [(2, .int (cf_fst cf_vo (((k 24) &&& (k 21)) &&& (k 20)) 0 3)), (1, .int 1), (0, .ref h0)]) hx hb dX0_dueForVs_69 rfl hl (by decide) rfl (fun ls hl => ?_)
      refine lv_iload_n hx hb dX0_dueForVs_70 rfl (lv_at hl 0 rfl) ?_
      refine lv_iconst (v := -1) hx hb dX0_dueForVs_71 (by decide) ?_
      refine lv_icmp_ne (tgt := 79) hx hb dX0_dueForVs_72 (by decide) (fun c_3 => ?_) (fun c_3 => ?_)
      · skip
        refine lv_iload_n hx hb dX0_dueForVs_79 rfl (lv_at hl 0 rfl) ?_
        refine lv_bipush (v := 99) hx hb dX0_dueForVs_80 (by decide) ?_
        refine lv_iadd hx hb dX0_dueForVs_82 ?_
        exact cf_roEnd hx hb hr hlocks (by simp only [cf_dV, cf_dV1, if_pos c_1, if_neg c_2, if_neg c_3, if_neg cf_n10, if_pos cf_p00, ↓reduceIte]) dX0_dueForVs_83
      · skip
        refine lv_iconst (v := -1) hx hb dX0_dueForVs_75 (by decide) ?_
        refine lv_goto (tgt := 83) hx hb dX0_dueForVs_76 (by decide) ?_
        exact cf_roEnd hx hb hr hlocks (by simp only [cf_dV, cf_dV1, if_pos c_1, if_neg c_2, if_pos c_3, if_neg cf_n10, if_pos cf_p00, ↓reduceIte]) dX0_dueForVs_83
    · skip
      exact absurd c_2 (by decide)
  · skip
    refine lv_aload_n hx hb dX0_dueForVs_8 rfl (lv_at hl 0 rfl) ?_
    refine va_get (D := D) (ci := 0) (v := .int md) (C := RX0) (T := TX0) (N := 6) hx hb hts hin0 hown hK hP 0 rfl rfl 1 (by decide) (hts (.fieldLink RX0 16 "ControlFile" "modeNow" "I") (by decide +kernel)) (fun _ h9 => h9) rfl dX0_dueForVs_9 ?_
    refine lv_iconst (v := 3) hx hb dX0_dueForVs_12 (by decide) ?_
    refine lv_icmp_ne (tgt := 32) hx hb dX0_dueForVs_13 (by decide) (fun c_4 => ?_) (fun c_4 => ?_)
    · skip
      refine lv_iconst (v := 0) hx hb dX0_dueForVs_32 (by decide) ?_
      refine lv_istore_n (lv' := [(1, .int 0), (0, .ref h0)]) hx hb dX0_dueForVs_33 rfl hl (by decide) rfl (fun ls hl => ?_)
      refine lv_iload_n hx hb dX0_dueForVs_34 rfl (lv_at hl 0 rfl) ?_
      refine lv_if_ne (tgt := 40) hx hb dX0_dueForVs_35 (by decide) (fun c_5 => ?_) (fun c_5 => ?_)
      · skip
        exact absurd (by decide) c_5
      · skip
        refine lv_iconst (v := -1) hx hb dX0_dueForVs_38 (by decide) ?_
        exact cf_roEnd hx hb hr hlocks (by simp only [cf_dV, cf_dV1, if_neg c_1, if_neg c_4, if_pos c_5, if_neg cf_n10, if_pos cf_p00, ↓reduceIte]) dX0_dueForVs_39
    · skip
      refine lv_aload_n hx hb dX0_dueForVs_16 rfl (lv_at hl 0 rfl) ?_
      refine va_get (D := D) (ci := 0) (v := .ref h1) (C := RX0) (T := TX0) (N := 6) hx hb hts hin0 hown hK hP 0 rfl rfl 0 (by decide) (hts (.fieldLink RX0 9 "ControlFile" "kept" "[I") (by decide +kernel)) (fun _ h9 => h9) rfl dX0_dueForVs_17 ?_
      refine lv_bipush (v := 9) hx hb dX0_dueForVs_20 (by decide) ?_
      refine cf_ld 9 hx hb hK hP 1 0 rfl rfl rfl (by decide) dX0_dueForVs_22 ?_
      refine lv_iconst (v := 2) hx hb dX0_dueForVs_23 (by decide) ?_
      refine lv_iand hx hb dX0_dueForVs_24 ?_
      refine lv_if_eq (tgt := 32) hx hb dX0_dueForVs_25 (by decide) (fun c_6 => ?_) (fun c_6 => ?_)
      · skip
        refine lv_iconst (v := 0) hx hb dX0_dueForVs_32 (by decide) ?_
        refine lv_istore_n (lv' := [(1, .int 0), (0, .ref h0)]) hx hb dX0_dueForVs_33 rfl hl (by decide) rfl (fun ls hl => ?_)
        refine lv_iload_n hx hb dX0_dueForVs_34 rfl (lv_at hl 0 rfl) ?_
        refine lv_if_ne (tgt := 40) hx hb dX0_dueForVs_35 (by decide) (fun c_7 => ?_) (fun c_7 => ?_)
        · skip
          exact absurd (by decide) c_7
        · skip
          refine lv_iconst (v := -1) hx hb dX0_dueForVs_38 (by decide) ?_
          exact cf_roEnd hx hb hr hlocks (by simp only [cf_dV, cf_dV1, if_neg c_1, if_pos c_4, if_pos c_6, if_pos c_7, if_neg cf_n10, if_pos cf_p00, ↓reduceIte]) dX0_dueForVs_39
      · skip
        refine lv_iconst (v := 1) hx hb dX0_dueForVs_28 (by decide) ?_
        refine lv_goto (tgt := 33) hx hb dX0_dueForVs_29 (by decide) ?_
        refine lv_istore_n (lv' := [(1, .int 1), (0, .ref h0)]) hx hb dX0_dueForVs_33 rfl hl (by decide) rfl (fun ls hl => ?_)
        refine lv_iload_n hx hb dX0_dueForVs_34 rfl (lv_at hl 0 rfl) ?_
        refine lv_if_ne (tgt := 40) hx hb dX0_dueForVs_35 (by decide) (fun c_8 => ?_) (fun c_8 => ?_)
        · skip
          refine va_gets (C := RX0) (ref := RX0) hx hb hZ.2.2.2.1 hS hown (hts (.fieldLink RX0 101 "ControlFile" "VS_ORDER" "[I") (by decide +kernel)) (fun _ h9 => h9) dX0_dueForVs_40 ?_
          refine lv_aload_n hx hb dX0_dueForVs_43 rfl (lv_at hl 1 rfl) ?_
          refine va_get (D := D) (ci := 0) (v := .ref h1) (C := RX0) (T := TX0) (N := 6) hx hb hts hin0 hown hK hP 0 rfl rfl 0 (by decide) (hts (.fieldLink RX0 9 "ControlFile" "kept" "[I") (by decide +kernel)) (fun _ h9 => h9) rfl dX0_dueForVs_44 ?_
          refine lv_bipush (v := 24) hx hb dX0_dueForVs_47 (by decide) ?_
          refine cf_ld 24 hx hb hK hP 1 0 rfl rfl rfl (by decide) dX0_dueForVs_49 ?_
          refine lv_aload_n hx hb dX0_dueForVs_50 rfl (lv_at hl 1 rfl) ?_
          refine va_get (D := D) (ci := 0) (v := .ref h1) (C := RX0) (T := TX0) (N := 6) hx hb hts hin0 hown hK hP 0 rfl rfl 0 (by decide) (hts (.fieldLink RX0 9 "ControlFile" "kept" "[I") (by decide +kernel)) (fun _ h9 => h9) rfl dX0_dueForVs_51 ?_
          refine lv_bipush (v := 21) hx hb dX0_dueForVs_54 (by decide) ?_
          refine cf_ld 21 hx hb hK hP 1 0 rfl rfl rfl (by decide) dX0_dueForVs_56 ?_
          refine lv_iand hx hb dX0_dueForVs_57 ?_
          refine lv_aload_n hx hb dX0_dueForVs_58 rfl (lv_at hl 1 rfl) ?_
          refine va_get (D := D) (ci := 0) (v := .ref h1) (C := RX0) (T := TX0) (N := 6) hx hb hts hin0 hown hK hP 0 rfl rfl 0 (by decide) (hts (.fieldLink RX0 9 "ControlFile" "kept" "[I") (by decide +kernel)) (fun _ h9 => h9) rfl dX0_dueForVs_59 ?_
          refine lv_bipush (v := 20) hx hb dX0_dueForVs_62 (by decide) ?_
          refine cf_ld 20 hx hb hK hP 1 0 rfl rfl rfl (by decide) dX0_dueForVs_64 ?_
          refine lv_iand hx hb dX0_dueForVs_65 ?_
          refine cf_callS (As := [.ref (z 3), .int (((k 24) &&& (k 21)) &&& (k 20))]) (rest := []) ⟨hx, hb, hml, hown, hts⟩ (c_firstV l D z (((k 24) &&& (k 21)) &&& (k 20))) (va_cwS 2 hts gX0_dueForVs_X0_firstOf rfl rfl rfl (by decide +kernel) ⟨Nat.le_of_ble_eq_true rfl, Nat.le_of_ble_eq_true rfl⟩) (hP.sub (ws' := []) [] rfl) (hK.sub (tys' := []) [] rfl) hZ hS rfl hl.1 rfl (Nat.le_of_ble_eq_true rfl) dX0_dueForVs_66 ⟨Nat.zero_le _, Nat.zero_le _⟩ ?_
          refine lv_istore_n (lv' := [(2, .int (cf_fst cf_vo (((k 24) &&& (k 21)) &&& (k 20)) 0 3)), (1, .int 1), (0, .ref h0)]) hx hb dX0_dueForVs_69 rfl hl (by decide) rfl (fun ls hl => ?_)
          refine lv_iload_n hx hb dX0_dueForVs_70 rfl (lv_at hl 0 rfl) ?_
          refine lv_iconst (v := -1) hx hb dX0_dueForVs_71 (by decide) ?_
          refine lv_icmp_ne (tgt := 79) hx hb dX0_dueForVs_72 (by decide) (fun c_9 => ?_) (fun c_9 => ?_)
          · skip
            refine lv_iload_n hx hb dX0_dueForVs_79 rfl (lv_at hl 0 rfl) ?_
            refine lv_bipush (v := 99) hx hb dX0_dueForVs_80 (by decide) ?_
            refine lv_iadd hx hb dX0_dueForVs_82 ?_
            exact cf_roEnd hx hb hr hlocks (by simp only [cf_dV, cf_dV1, if_neg c_1, if_pos c_4, if_neg c_6, if_neg c_8, if_neg c_9, if_neg cf_n10, if_pos cf_p00, ↓reduceIte]) dX0_dueForVs_83
          · skip
            refine lv_iconst (v := -1) hx hb dX0_dueForVs_75 (by decide) ?_
            refine lv_goto (tgt := 83) hx hb dX0_dueForVs_76 (by decide) ?_
            exact cf_roEnd hx hb hr hlocks (by simp only [cf_dV, cf_dV1, if_neg c_1, if_pos c_4, if_neg c_6, if_neg c_8, if_pos c_9, if_neg cf_n10, if_pos cf_p00, ↓reduceIte]) dX0_dueForVs_83
        · skip
          exact absurd c_8 (by decide)
set_option maxHeartbeats 4000000 in
set_option maxRecDepth 100000 in
theorem c_due (l : Launch) (D : va_G) (z : Nat → Nat) (h0 h1 : Nat) (cA : ClassId) (k : Nat → Int32) (md : Int32) (tm al : Int64) (ln od : Int32) : Met l yX0_due wsX0_due ({ frames := 2, cells := 0, slots := 0, locals := 44 } : Room) (cf_ro [.ref h0] D (cf_W 0 h0 h1 cA k md tm al ln od) [(cA, .int)] z) (vp_Si (fun r => r = cf_due k md tm al ln)) 0 0 (fun _ => False) := by
  refine Met.ofW (cc := cX0_due) (maxL := 2) (ret := (some .int)) (by decide) rfl ?_
  intro p e s m args below meth c s₁ B hml hv
  obtain ⟨rfl, hP, hK, hZ⟩ := hv
  have hx := B.exec
  have hb := B.bytes
  have hr := B.returns
  have hts := atoms_spec (ws := wsX0_due) B.pre
  have hown : s.vm.findClass RX0 = some m.cls := findClass_of_methodNamed B.named
  have hlocks := B.notSynchronized
  have hS : va_S (fun _ => False) s.heap s.heap [] := va_S.rf
  have hl := lv_entry ([.ref h0]) (n := 2) (Nat.le_of_ble_eq_true rfl)
  rw [lg_entry_eq]
  generalize (lg_sl ([.ref h0]) ++ List.replicate (2 - (lg_sl ([.ref h0])).length) Slot.unset).toArray = ls at hl ⊢
  have hl : lv_has ls 2 [(0, .ref h0)] := hl
  refine lv_aload_n hx hb dX0_due_0 rfl (lv_at hl 0 rfl) ?_
  refine cf_callV (As := []) (rest := []) ⟨hx, hb, hml, hown, hts⟩ (c_dueForS l D z h0 h1 cA k md tm al ln od) (cwV 0 hts gX0_due_X0_dueForS rfl rfl rfl (by decide +kernel) ⟨Nat.le_of_ble_eq_true rfl, Nat.le_of_ble_eq_true rfl⟩) hP hK hZ hS (ci := 0) (q0 := 0) rfl rfl rfl rfl hl.1 rfl (Nat.le_of_ble_eq_true rfl) dX0_due_1 ⟨Nat.zero_le _, Nat.zero_le _⟩ ?_
  refine lv_istore_n (lv' := [(1, .int (cf_dS k md tm al ln)), (0, .ref h0)]) hx hb dX0_due_4 rfl hl (by decide) rfl (fun ls hl => ?_)
  refine lv_iload_n hx hb dX0_due_5 rfl (lv_at hl 0 rfl) ?_
  refine lv_iconst (v := -1) hx hb dX0_due_6 (by decide) ?_
  refine lv_icmp_eq (tgt := 14) hx hb dX0_due_7 (by decide) (fun c_1 => ?_) (fun c_1 => ?_)
  · skip
    refine lv_aload_n hx hb dX0_due_14 rfl (lv_at hl 1 rfl) ?_
    refine cf_callV (As := []) (rest := []) ⟨hx, hb, hml, hown, hts⟩ (c_dueForVs l D z h0 h1 cA k md tm al ln od) (cwV 0 hts gX0_due_X0_dueForVs rfl rfl rfl (by decide +kernel) ⟨Nat.le_of_ble_eq_true rfl, Nat.le_of_ble_eq_true rfl⟩) hP hK hZ hS (ci := 0) (q0 := 0) rfl rfl rfl rfl hl.1 rfl (Nat.le_of_ble_eq_true rfl) dX0_due_15 ⟨Nat.zero_le _, Nat.zero_le _⟩ ?_
    exact cf_roEnd hx hb hr hlocks (by simp only [cf_due, if_pos c_1, if_neg cf_n10, if_pos cf_p00, ↓reduceIte]) dX0_due_18
  · skip
    refine lv_iload_n hx hb dX0_due_10 rfl (lv_at hl 0 rfl) ?_
    refine lv_goto (tgt := 18) hx hb dX0_due_11 (by decide) ?_
    exact cf_roEnd hx hb hr hlocks (by simp only [cf_due, if_neg c_1, if_neg cf_n10, if_pos cf_p00, ↓reduceIte]) dX0_due_18
