set_option maxHeartbeats 4000000 in
set_option maxRecDepth 100000 in
theorem m_mode (l : Launch) (D : va_G) (z : Nat → Nat) (h0 h1 : Nat) (cA : ClassId) (k : Nat → Int32) (md : Int32) (tm al : Int64) (ln od : Int32) (sz : Nat) (x : Int32) : Met l yX1_mode wsX1_mode ({ frames := 0, cells := 0, slots := 0, locals := 0 } : Room) (cf_wr [.ref h0, .int x] D (cf_W 1 h0 h1 cA k md tm al ln od) [(cA, .int)] sz z) (va_Qi (fun r u => r = cf_mdR md x ∧ u = cf_W 1 h0 h1 cA k (cf_mdM md x) tm al ln od) (cf_B D [(cA, .int)] (va_A (cf_W 1 h0 h1 cA k md tm al ln od) sz)) (va_A (cf_W 1 h0 h1 cA k md tm al ln od) sz)) 0 0 (va_A (cf_W 1 h0 h1 cA k md tm al ln od) sz) := by
  refine Met.ofW (cc := cX1_mode) (maxL := 3) (ret := (some .int)) (by decide) rfl ?_
  intro p e s m args below meth c s₁ B hml hv
  obtain ⟨rfl, hsz, hP, hK, hD0, hZ⟩ := hv
  have hx := B.exec
  have hb := B.bytes
  have hr := B.returns
  have hts := atoms_spec (ws := wsX1_mode) B.pre
  have hown : s.vm.findClass RX1 = some m.cls := findClass_of_methodNamed B.named
  have hlocks := B.notSynchronized
  have hin0 : ∀ w ∈ wsX10, w ∈ wsX1_mode := by decide +kernel
  subst hsz
  have hD := hD0.self (sz := s.heap.size)
  generalize hAe : va_A (cf_W 1 h0 h1 cA k md tm al ln od) s.heap.size = A at hD hZ ⊢
  have hA : ∀ q : Nat, s.heap.size ≤ q → A q := fun q h => by rw [← hAe]; exact Or.inr h
  have hS : va_S A s.heap s.heap [] := va_S.rf
  have hl := lv_entry ([.ref h0, .int x]) (n := 3) (Nat.le_of_ble_eq_true rfl)
  rw [lg_entry_eq]
  generalize (lg_sl ([.ref h0, .int x]) ++ List.replicate (3 - (lg_sl ([.ref h0, .int x])).length) Slot.unset).toArray = ls at hl ⊢
  have hl : lv_has ls 3 [(0, .ref h0), (1, .int x)] := hl
  refine lv_iload_n hx hb dX1_mode_0 rfl (lv_at hl 1 rfl) ?_
  refine lv_if_lt (tgt := 9) hx hb dX1_mode_1 (by decide) (fun c_1 => ?_) (fun c_1 => ?_)
  · skip
    refine lv_iconst (v := -1) hx hb dX1_mode_9 (by decide) ?_
    exact cf_wrEnd hx hb hr hlocks hP hD hK hS (by simp only [cf_mdR, cf_mdM, if_pos c_1, if_neg cf_n10, if_pos cf_p00, ↓reduceIte]) (by simp only [cf_mdR, cf_mdM, if_pos c_1, if_neg cf_n10, if_pos cf_p00, ↓reduceIte]) dX1_mode_10
  · skip
    refine lv_iload_n hx hb dX1_mode_4 rfl (lv_at hl 1 rfl) ?_
    refine lv_iconst (v := 3) hx hb dX1_mode_5 (by decide) ?_
    refine lv_icmp_le (tgt := 11) hx hb dX1_mode_6 (by decide) (fun c_2 => ?_) (fun c_2 => ?_)
    · skip
      refine lv_aload_n hx hb dX1_mode_11 rfl (lv_at hl 0 rfl) ?_
      refine va_get (D := D) (ci := 1) (v := .int md) (C := RX1) (T := TX1) (N := 6) hx hb hts hin0 hown hK hP 0 rfl rfl 1 (by decide) (hts (.fieldLink RX1 16 "ControlFileModel" "mode" "I") (by decide +kernel)) (fun _ h9 => h9) rfl dX1_mode_12 ?_
      refine lv_istore_n (lv' := [(2, .int md), (0, .ref h0), (1, .int x)]) hx hb dX1_mode_15 rfl hl (by decide) rfl (fun ls hl => ?_)
      refine lv_aload_n hx hb dX1_mode_16 rfl (lv_at hl 1 rfl) ?_
      refine lv_iload_n hx hb dX1_mode_17 rfl (lv_at hl 2 rfl) ?_
      refine va_put (D := D) (ci := 1) (v := .int x) (ty := .int) (C := RX1) (T := TX1) (N := 6) hx hb hts hin0 tyX1 tyX1_ok nmX1 hown hK hP hD hS 0 rfl rfl 1 (by decide) (hts (.fieldLink RX1 16 "ControlFileModel" "mode" "I") (by decide +kernel)) (fun _ h9 => h9) rfl (by decide +kernel) rfl rfl (Nat.le_of_ble_eq_true rfl) dX1_mode_18 (fun H locs hP hD hS => ?_)
      have hP : va_P D vwCl (cf_W 1 h0 h1 cA k x tm al ln od) H := hP
      have hD : va_D A (cf_W 1 h0 h1 cA k x tm al ln od) := hD
      refine lv_iload_n hx hb dX1_mode_21 rfl (lv_at hl 0 rfl) ?_
      exact cf_wrEnd hx hb hr hlocks hP hD hK hS (by simp only [cf_mdR, cf_mdM, if_neg c_1, if_pos c_2, if_neg cf_n10, if_pos cf_p00, ↓reduceIte]) (by simp only [cf_mdR, cf_mdM, if_neg c_1, if_pos c_2, if_neg cf_n10, if_pos cf_p00, ↓reduceIte]) dX1_mode_22
    · skip
      refine lv_iconst (v := -1) hx hb dX1_mode_9 (by decide) ?_
      exact cf_wrEnd hx hb hr hlocks hP hD hK hS (by simp only [cf_mdR, cf_mdM, if_neg c_1, if_neg c_2, if_neg cf_n10, if_pos cf_p00, ↓reduceIte]) (by simp only [cf_mdR, cf_mdM, if_neg c_1, if_neg c_2, if_neg cf_n10, if_pos cf_p00, ↓reduceIte]) dX1_mode_10
set_option maxHeartbeats 4000000 in
set_option maxRecDepth 100000 in
theorem m_time (l : Launch) (D : va_G) (z : Nat → Nat) (h0 h1 : Nat) (cA : ClassId) (k : Nat → Int32) (md : Int32) (tm al : Int64) (ln od : Int32) (sz : Nat) (t : Int64) : Met l yX1_time wsX1_time ({ frames := 0, cells := 0, slots := 0, locals := 0 } : Room) (cf_wr [.ref h0, .long t] D (cf_W 1 h0 h1 cA k md tm al ln od) [(cA, .int)] sz z) (va_Ql (fun r u => r = cf_tmR tm t ∧ u = cf_W 1 h0 h1 cA k md (cf_tmM tm t) al ln od) (cf_B D [(cA, .int)] (va_A (cf_W 1 h0 h1 cA k md tm al ln od) sz)) (va_A (cf_W 1 h0 h1 cA k md tm al ln od) sz)) 0 0 (va_A (cf_W 1 h0 h1 cA k md tm al ln od) sz) := by
  refine Met.ofW (cc := cX1_time) (maxL := 5) (ret := (some .long)) (by decide) rfl ?_
  intro p e s m args below meth c s₁ B hml hv
  obtain ⟨rfl, hsz, hP, hK, hD0, hZ⟩ := hv
  have hx := B.exec
  have hb := B.bytes
  have hr := B.returns
  have hts := atoms_spec (ws := wsX1_time) B.pre
  have hown : s.vm.findClass RX1 = some m.cls := findClass_of_methodNamed B.named
  have hlocks := B.notSynchronized
  have hin0 : ∀ w ∈ wsX10, w ∈ wsX1_time := by decide +kernel
  subst hsz
  have hD := hD0.self (sz := s.heap.size)
  generalize hAe : va_A (cf_W 1 h0 h1 cA k md tm al ln od) s.heap.size = A at hD hZ ⊢
  have hA : ∀ q : Nat, s.heap.size ≤ q → A q := fun q h => by rw [← hAe]; exact Or.inr h
  have hS : va_S A s.heap s.heap [] := va_S.rf
  have hl := lv_entry ([.ref h0, .long t]) (n := 5) (Nat.le_of_ble_eq_true rfl)
  rw [lg_entry_eq]
  generalize (lg_sl ([.ref h0, .long t]) ++ List.replicate (5 - (lg_sl ([.ref h0, .long t])).length) Slot.unset).toArray = ls at hl ⊢
  have hl : lv_has ls 5 [(0, .ref h0), (1, .long t)] := hl
  refine lv_lload_n hx hb dX1_time_0 rfl (lv_at hl 1 rfl) ?_
  refine lv_lconst (v := 0) hx hb dX1_time_1 (by decide) ?_
  refine W.lcmp hx hb dX1_time_2 ?_
  refine lv_if_ge (tgt := 10) hx hb dX1_time_3 (by decide) (fun c_1 => ?_) (fun c_1 => ?_)
  · skip
    refine lv_aload_n hx hb dX1_time_10 rfl (lv_at hl 0 rfl) ?_
    refine va_get (D := D) (ci := 1) (v := .long tm) (C := RX1) (T := TX1) (N := 6) hx hb hts hin0 hown hK hP 0 rfl rfl 2 (by decide) (hts (.fieldLink RX1 20 "ControlFileModel" "time" "J") (by decide +kernel)) (fun _ h9 => h9) rfl dX1_time_11 ?_
    refine lv_lstore_n (lv' := [(3, .long tm), (0, .ref h0), (1, .long t)]) hx hb dX1_time_14 rfl hl (by decide) rfl (fun ls hl => ?_)
    refine lv_aload_n hx hb dX1_time_15 rfl (lv_at hl 1 rfl) ?_
    refine lv_lload_n hx hb dX1_time_16 rfl (lv_at hl 2 rfl) ?_
    refine va_put (D := D) (ci := 1) (v := .long t) (ty := .long) (C := RX1) (T := TX1) (N := 6) hx hb hts hin0 tyX1 tyX1_ok nmX1 hown hK hP hD hS 0 rfl rfl 2 (by decide) (hts (.fieldLink RX1 20 "ControlFileModel" "time" "J") (by decide +kernel)) (fun _ h9 => h9) rfl (by decide +kernel) rfl rfl (Nat.le_of_ble_eq_true rfl) dX1_time_17 (fun H locs hP hD hS => ?_)
    have hP : va_P D vwCl (cf_W 1 h0 h1 cA k md t al ln od) H := hP
    have hD : va_D A (cf_W 1 h0 h1 cA k md t al ln od) := hD
    refine lv_lload_n hx hb dX1_time_20 rfl (lv_at hl 0 rfl) ?_
    exact cf_wrEndL hx hb hr hlocks hP hD hK hS (by simp only [cf_tmR, cf_tmM, if_pos c_1, if_neg cf_n10, if_pos cf_p00, ↓reduceIte]) (by simp only [cf_tmR, cf_tmM, if_pos c_1, if_neg cf_n10, if_pos cf_p00, ↓reduceIte]) dX1_time_21
  · skip
    refine lv_ldc2 (own := RX1) (v := -1) hx hb hown (hts (.constantLong RX1 36 (-1)) (by decide +kernel)) dX1_time_6 ?_
    exact cf_wrEndL hx hb hr hlocks hP hD hK hS (by simp only [cf_tmR, cf_tmM, if_neg c_1, if_neg cf_n10, if_pos cf_p00, ↓reduceIte]) (by simp only [cf_tmR, cf_tmM, if_neg c_1, if_neg cf_n10, if_pos cf_p00, ↓reduceIte]) dX1_time_9
set_option maxHeartbeats 4000000 in
set_option maxRecDepth 100000 in
theorem m_alarm (l : Launch) (D : va_G) (z : Nat → Nat) (h0 h1 : Nat) (cA : ClassId) (k : Nat → Int32) (md : Int32) (tm al : Int64) (ln od : Int32) (sz : Nat) (t : Int64) : Met l yX1_alarm wsX1_alarm ({ frames := 0, cells := 0, slots := 0, locals := 0 } : Room) (cf_wr [.ref h0, .long t] D (cf_W 1 h0 h1 cA k md tm al ln od) [(cA, .int)] sz z) (va_Ql (fun r u => r = al ∧ u = cf_W 1 h0 h1 cA k md tm (cf_alM t) ln od) (cf_B D [(cA, .int)] (va_A (cf_W 1 h0 h1 cA k md tm al ln od) sz)) (va_A (cf_W 1 h0 h1 cA k md tm al ln od) sz)) 0 0 (va_A (cf_W 1 h0 h1 cA k md tm al ln od) sz) := by
  refine Met.ofW (cc := cX1_alarm) (maxL := 5) (ret := (some .long)) (by decide) rfl ?_
  intro p e s m args below meth c s₁ B hml hv
  obtain ⟨rfl, hsz, hP, hK, hD0, hZ⟩ := hv
  have hx := B.exec
  have hb := B.bytes
  have hr := B.returns
  have hts := atoms_spec (ws := wsX1_alarm) B.pre
  have hown : s.vm.findClass RX1 = some m.cls := findClass_of_methodNamed B.named
  have hlocks := B.notSynchronized
  have hin0 : ∀ w ∈ wsX10, w ∈ wsX1_alarm := by decide +kernel
  subst hsz
  have hD := hD0.self (sz := s.heap.size)
  generalize hAe : va_A (cf_W 1 h0 h1 cA k md tm al ln od) s.heap.size = A at hD hZ ⊢
  have hA : ∀ q : Nat, s.heap.size ≤ q → A q := fun q h => by rw [← hAe]; exact Or.inr h
  have hS : va_S A s.heap s.heap [] := va_S.rf
  have hl := lv_entry ([.ref h0, .long t]) (n := 5) (Nat.le_of_ble_eq_true rfl)
  rw [lg_entry_eq]
  generalize (lg_sl ([.ref h0, .long t]) ++ List.replicate (5 - (lg_sl ([.ref h0, .long t])).length) Slot.unset).toArray = ls at hl ⊢
  have hl : lv_has ls 5 [(0, .ref h0), (1, .long t)] := hl
  refine lv_aload_n hx hb dX1_alarm_0 rfl (lv_at hl 0 rfl) ?_
  refine va_get (D := D) (ci := 1) (v := .long al) (C := RX1) (T := TX1) (N := 6) hx hb hts hin0 hown hK hP 0 rfl rfl 3 (by decide) (hts (.fieldLink RX1 26 "ControlFileModel" "alarm" "J") (by decide +kernel)) (fun _ h9 => h9) rfl dX1_alarm_1 ?_
  refine lv_lstore_n (lv' := [(3, .long al), (0, .ref h0), (1, .long t)]) hx hb dX1_alarm_4 rfl hl (by decide) rfl (fun ls hl => ?_)
  refine lv_aload_n hx hb dX1_alarm_5 rfl (lv_at hl 1 rfl) ?_
  refine lv_lload_n hx hb dX1_alarm_6 rfl (lv_at hl 2 rfl) ?_
  refine lv_lconst (v := 0) hx hb dX1_alarm_7 (by decide) ?_
  refine W.lcmp hx hb dX1_alarm_8 ?_
  refine lv_if_ge (tgt := 18) hx hb dX1_alarm_9 (by decide) (fun c_1 => ?_) (fun c_1 => ?_)
  · skip
    refine lv_lload_n hx hb dX1_alarm_18 rfl (lv_at hl 2 rfl) ?_
    refine va_put (D := D) (ci := 1) (v := .long t) (ty := .long) (C := RX1) (T := TX1) (N := 6) hx hb hts hin0 tyX1 tyX1_ok nmX1 hown hK hP hD hS 0 rfl rfl 3 (by decide) (hts (.fieldLink RX1 26 "ControlFileModel" "alarm" "J") (by decide +kernel)) (fun _ h9 => h9) rfl (by decide +kernel) rfl rfl (Nat.le_of_ble_eq_true rfl) dX1_alarm_19 (fun H locs hP hD hS => ?_)
    have hP : va_P D vwCl (cf_W 1 h0 h1 cA k md tm t ln od) H := hP
    have hD : va_D A (cf_W 1 h0 h1 cA k md tm t ln od) := hD
    refine lv_lload_n hx hb dX1_alarm_22 rfl (lv_at hl 0 rfl) ?_
    exact cf_wrEndL hx hb hr hlocks hP hD hK hS rfl (by simp only [cf_alM, if_pos c_1, if_neg cf_n10, if_pos cf_p00, ↓reduceIte]) dX1_alarm_23
  · skip
    refine lv_ldc2 (own := RX1) (v := 9223372036854775807) hx hb hown (hts (.constantLong RX1 24 9223372036854775807) (by decide +kernel)) dX1_alarm_12 ?_
    refine lv_goto (tgt := 19) hx hb dX1_alarm_15 (by decide) ?_
    refine va_put (D := D) (ci := 1) (v := .long 9223372036854775807) (ty := .long) (C := RX1) (T := TX1) (N := 6) hx hb hts hin0 tyX1 tyX1_ok nmX1 hown hK hP hD hS 0 rfl rfl 3 (by decide) (hts (.fieldLink RX1 26 "ControlFileModel" "alarm" "J") (by decide +kernel)) (fun _ h9 => h9) rfl (by decide +kernel) rfl rfl (Nat.le_of_ble_eq_true rfl) dX1_alarm_19 (fun H locs hP hD hS => ?_)
    have hP : va_P D vwCl (cf_W 1 h0 h1 cA k md tm 9223372036854775807 ln od) H := hP
    have hD : va_D A (cf_W 1 h0 h1 cA k md tm 9223372036854775807 ln od) := hD
    refine lv_lload_n hx hb dX1_alarm_22 rfl (lv_at hl 0 rfl) ?_
    exact cf_wrEndL hx hb hr hlocks hP hD hK hS rfl (by simp only [cf_alM, if_neg c_1, if_neg cf_n10, if_pos cf_p00, ↓reduceIte]) dX1_alarm_23
set_option maxHeartbeats 4000000 in
set_option maxRecDepth 100000 in
theorem m_line (l : Launch) (D : va_G) (z : Nat → Nat) (h0 h1 : Nat) (cA : ClassId) (k : Nat → Int32) (md : Int32) (tm al : Int64) (ln od : Int32) (sz : Nat) (on : Int32) (hln : ln = 0 ∨ ln = 1) (hon : on = 0 ∨ on = 1) : Met l yX1_line wsX1_line ({ frames := 0, cells := 0, slots := 0, locals := 0 } : Room) (cf_wr [.ref h0, .int on] D (cf_W 1 h0 h1 cA k md tm al ln od) [(cA, .int)] sz z) (va_Qi (fun r u => r = ln ∧ u = cf_W 1 h0 h1 cA k md tm al on od) (cf_B D [(cA, .int)] (va_A (cf_W 1 h0 h1 cA k md tm al ln od) sz)) (va_A (cf_W 1 h0 h1 cA k md tm al ln od) sz)) 0 0 (va_A (cf_W 1 h0 h1 cA k md tm al ln od) sz) := by
  refine Met.ofW (cc := cX1_line) (maxL := 3) (ret := (some .boolean)) (by decide) rfl ?_
  intro p e s m args below meth c s₁ B hml hv
  obtain ⟨rfl, hsz, hP, hK, hD0, hZ⟩ := hv
  have hx := B.exec
  have hb := B.bytes
  have hr := B.returns
  have hts := atoms_spec (ws := wsX1_line) B.pre
  have hown : s.vm.findClass RX1 = some m.cls := findClass_of_methodNamed B.named
  have hlocks := B.notSynchronized
  have hin0 : ∀ w ∈ wsX10, w ∈ wsX1_line := by decide +kernel
  subst hsz
  have hD := hD0.self (sz := s.heap.size)
  generalize hAe : va_A (cf_W 1 h0 h1 cA k md tm al ln od) s.heap.size = A at hD hZ ⊢
  have hA : ∀ q : Nat, s.heap.size ≤ q → A q := fun q h => by rw [← hAe]; exact Or.inr h
  have hS : va_S A s.heap s.heap [] := va_S.rf
  have hl := lv_entry ([.ref h0, .int on]) (n := 3) (Nat.le_of_ble_eq_true rfl)
  rw [lg_entry_eq]
  generalize (lg_sl ([.ref h0, .int on]) ++ List.replicate (3 - (lg_sl ([.ref h0, .int on])).length) Slot.unset).toArray = ls at hl ⊢
  have hl : lv_has ls 3 [(0, .ref h0), (1, .int on)] := hl
  refine lv_aload_n hx hb dX1_line_0 rfl (lv_at hl 0 rfl) ?_
  refine va_get (D := D) (ci := 1) (v := .int ln) (C := RX1) (T := TX1) (N := 6) hx hb hts hin0 hown hK hP 0 rfl rfl 4 (by decide) (hts (.fieldLink RX1 29 "ControlFileModel" "line" "Z") (by decide +kernel)) (fun _ h9 => h9) rfl dX1_line_1 ?_
  refine lv_istore_n (lv' := [(2, .int ln), (0, .ref h0), (1, .int on)]) hx hb dX1_line_4 rfl hl (by decide) rfl (fun ls hl => ?_)
  refine lv_aload_n hx hb dX1_line_5 rfl (lv_at hl 1 rfl) ?_
  refine lv_iload_n hx hb dX1_line_6 rfl (lv_at hl 2 rfl) ?_
  refine va_put (D := D) (ci := 1) (v := .int on) (ty := .boolean) (C := RX1) (T := TX1) (N := 6) hx hb hts hin0 tyX1 tyX1_ok nmX1 hown hK hP hD hS 0 rfl rfl 4 (by decide) (hts (.fieldLink RX1 29 "ControlFileModel" "line" "Z") (by decide +kernel)) (fun _ h9 => h9) rfl (by decide +kernel) (by rcases hon with rfl | rfl <;> rfl) (by rcases hon with rfl | rfl <;> rfl) (Nat.le_of_ble_eq_true rfl) dX1_line_7 (fun H locs hP hD hS => ?_)
  have hP : va_P D vwCl (cf_W 1 h0 h1 cA k md tm al on od) H := hP
  have hD : va_D A (cf_W 1 h0 h1 cA k md tm al on od) := hD
  refine lv_iload_n hx hb dX1_line_10 rfl (lv_at hl 0 rfl) ?_
  exact cf_wrEndZ hx hb hr hlocks (by rcases hln with rfl | rfl <;> rfl) hP hD hK hS (rfl) (rfl) dX1_line_11
set_option maxHeartbeats 4000000 in
set_option maxRecDepth 100000 in
theorem m_put (l : Launch) (D : va_G) (z : Nat → Nat) (h0 h1 : Nat) (cA : ClassId) (k : Nat → Int32) (md : Int32) (tm al : Int64) (ln od : Int32) (sz : Nat) (x : Int32) (b : Int32) (v : Int32) (hin : vp_in x 29) : Met l yX1_put wsX1_put ({ frames := 0, cells := 0, slots := 0, locals := 0 } : Room) (cf_wr [.ref h0, .int x, .int b, .int v] D (cf_W 1 h0 h1 cA k md tm al ln od) [(cA, .int)] sz z) (va_Qv (fun u => u = cf_W 1 h0 h1 cA (mf_put k x b v) md tm al ln od) (cf_B D [(cA, .int)] (va_A (cf_W 1 h0 h1 cA k md tm al ln od) sz)) (va_A (cf_W 1 h0 h1 cA k md tm al ln od) sz)) 0 0 (va_A (cf_W 1 h0 h1 cA k md tm al ln od) sz) := by
  refine Met.ofW (cc := cX1_put) (maxL := 4) (ret := none) (by decide) rfl ?_
  intro p e s m args below meth c s₁ B hml hv
  obtain ⟨rfl, hsz, hP, hK, hD0, hZ⟩ := hv
  have hx := B.exec
  have hb := B.bytes
  have hr := B.returns
  have hts := atoms_spec (ws := wsX1_put) B.pre
  have hown : s.vm.findClass RX1 = some m.cls := findClass_of_methodNamed B.named
  have hlocks := B.notSynchronized
  have hin0 : ∀ w ∈ wsX10, w ∈ wsX1_put := by decide +kernel
  subst hsz
  have hD := hD0.self (sz := s.heap.size)
  generalize hAe : va_A (cf_W 1 h0 h1 cA k md tm al ln od) s.heap.size = A at hD hZ ⊢
  have hA : ∀ q : Nat, s.heap.size ≤ q → A q := fun q h => by rw [← hAe]; exact Or.inr h
  have hS : va_S A s.heap s.heap [] := va_S.rf
  have hl := lv_entry ([.ref h0, .int x, .int b, .int v]) (n := 4) (Nat.le_of_ble_eq_true rfl)
  rw [lg_entry_eq]
  generalize (lg_sl ([.ref h0, .int x, .int b, .int v]) ++ List.replicate (4 - (lg_sl ([.ref h0, .int x, .int b, .int v])).length) Slot.unset).toArray = ls at hl ⊢
  have hl : lv_has ls 4 [(0, .ref h0), (1, .int x), (2, .int b), (3, .int v)] := hl
  refine lv_aload_n hx hb dX1_put_0 rfl (lv_at hl 0 rfl) ?_
  refine va_get (D := D) (ci := 1) (v := .ref h1) (C := RX1) (T := TX1) (N := 6) hx hb hts hin0 hown hK hP 0 rfl rfl 0 (by decide) (hts (.fieldLink RX1 7 "ControlFileModel" "kept" "[I") (by decide +kernel)) (fun _ h9 => h9) rfl dX1_put_1 ?_
  refine lv_iload_n hx hb dX1_put_4 rfl (lv_at hl 1 rfl) ?_
  refine lv_aload_n hx hb dX1_put_5 rfl (lv_at hl 0 rfl) ?_
  refine va_get (D := D) (ci := 1) (v := .ref h1) (C := RX1) (T := TX1) (N := 6) hx hb hts hin0 hown hK hP 0 rfl rfl 0 (by decide) (hts (.fieldLink RX1 7 "ControlFileModel" "kept" "[I") (by decide +kernel)) (fun _ h9 => h9) rfl dX1_put_6 ?_
  refine lv_iload_n hx hb dX1_put_9 rfl (lv_at hl 1 rfl) ?_
  refine va_iald hx hb hK hP 1 0 rfl rfl hin dX1_put_10 ?_
  refine lv_iload_n hx hb dX1_put_11 rfl (lv_at hl 2 rfl) ?_
  refine lv_iconst (v := -1) hx hb dX1_put_12 (by decide) ?_
  refine lv_ixor hx hb dX1_put_13 ?_
  refine lv_iand hx hb dX1_put_14 ?_
  refine lv_iload_n hx hb dX1_put_15 rfl (lv_at hl 3 rfl) ?_
  refine lv_iload_n hx hb dX1_put_16 rfl (lv_at hl 2 rfl) ?_
  refine lv_iand hx hb dX1_put_17 ?_
  refine lv_ior hx hb dX1_put_18 ?_
  refine va_iast hx hb hK hP hD hS 1 0 rfl rfl hin dX1_put_19 (fun H locs hP hD hS => ?_)
  have hP : va_P D vwCl (cf_W 1 h0 h1 cA (upd k x.toNatClampNeg (((k x.toNatClampNeg) &&& (b ^^^ (-1))) ||| (v &&& b))) md tm al ln od) H := hP
  have hD : va_D A (cf_W 1 h0 h1 cA (upd k x.toNatClampNeg (((k x.toNatClampNeg) &&& (b ^^^ (-1))) ||| (v &&& b))) md tm al ln od) := hD
  exact cf_wrEndN hx hb hr hlocks hP hD hK hS (by simp only [mf_put, if_neg cf_n10, if_pos cf_p00, ↓reduceIte]) dX1_put_20
set_option maxHeartbeats 4000000 in
set_option maxRecDepth 100000 in
theorem m_write (l : Launch) (D : va_G) (z : Nat → Nat) (h0 h1 : Nat) (cA : ClassId) (k : Nat → Int32) (md : Int32) (tm al : Int64) (ln od : Int32) (sz : Nat) (x : Int32) (v : Int32) (hin : vp_in x 29) : Met l yX1_write wsX1_write ({ frames := 1, cells := 0, slots := 0, locals := 23 } : Room) (cf_wr [.ref h0, .int x, .int v] D (cf_W 1 h0 h1 cA k md tm al ln od) [(cA, .int)] sz z) (va_Qv (fun u => u = cf_W 1 h0 h1 cA (mf_write k x v) md tm al ln od) (cf_B D [(cA, .int)] (va_A (cf_W 1 h0 h1 cA k md tm al ln od) sz)) (va_A (cf_W 1 h0 h1 cA k md tm al ln od) sz)) 0 0 (va_A (cf_W 1 h0 h1 cA k md tm al ln od) sz) := by
  refine Met.ofW (cc := cX1_write) (maxL := 3) (ret := none) (by decide) rfl ?_
  intro p e s m args below meth c s₁ B hml hv
  obtain ⟨rfl, hsz, hP, hK, hD0, hZ⟩ := hv
  have hx := B.exec
  have hb := B.bytes
  have hr := B.returns
  have hts := atoms_spec (ws := wsX1_write) B.pre
  have hown : s.vm.findClass RX1 = some m.cls := findClass_of_methodNamed B.named
  have hlocks := B.notSynchronized
  have hin0 : ∀ w ∈ wsX10, w ∈ wsX1_write := by decide +kernel
  subst hsz
  have hD := hD0.self (sz := s.heap.size)
  generalize hAe : va_A (cf_W 1 h0 h1 cA k md tm al ln od) s.heap.size = A at hD hZ ⊢
  have hA : ∀ q : Nat, s.heap.size ≤ q → A q := fun q h => by rw [← hAe]; exact Or.inr h
  have hS : va_S A s.heap s.heap [] := va_S.rf
  have hl := lv_entry ([.ref h0, .int x, .int v]) (n := 3) (Nat.le_of_ble_eq_true rfl)
  rw [lg_entry_eq]
  generalize (lg_sl ([.ref h0, .int x, .int v]) ++ List.replicate (3 - (lg_sl ([.ref h0, .int x, .int v])).length) Slot.unset).toArray = ls at hl ⊢
  have hl : lv_has ls 3 [(0, .ref h0), (1, .int x), (2, .int v)] := hl
  refine lv_iload_n hx hb dX1_write_0 rfl (lv_at hl 1 rfl) ?_
  refine lv_bipush (v := 10) hx hb dX1_write_1 (by decide) ?_
  refine lv_icmp_ne (tgt := 29) hx hb dX1_write_3 (by decide) (fun c_1 => ?_) (fun c_1 => ?_)
  · skip
    refine lv_iload_n hx hb dX1_write_29 rfl (lv_at hl 1 rfl) ?_
    refine lv_bipush (v := 16) hx hb dX1_write_30 (by decide) ?_
    refine lv_icmp_ne (tgt := 56) hx hb dX1_write_32 (by decide) (fun c_2 => ?_) (fun c_2 => ?_)
    · skip
      refine lv_iload_n hx hb dX1_write_56 rfl (lv_at hl 1 rfl) ?_
      refine lv_bipush (v := 23) hx hb dX1_write_57 (by decide) ?_
      refine lv_icmp_ne (tgt := 73) hx hb dX1_write_59 (by decide) (fun c_3 => ?_) (fun c_3 => ?_)
      · skip
        refine lv_aload_n hx hb dX1_write_73 rfl (lv_at hl 0 rfl) ?_
        refine lv_iload_n hx hb dX1_write_74 rfl (lv_at hl 1 rfl) ?_
        refine lv_iconst (v := -1) hx hb dX1_write_75 (by decide) ?_
        refine lv_iload_n hx hb dX1_write_76 rfl (lv_at hl 2 rfl) ?_
        refine lv_iload_n hx hb dX1_write_77 rfl (lv_at hl 1 rfl) ?_
        refine cf_callS (As := [.int x]) (rest := [.int v, .int (-1), .int x, .ref h0]) ⟨hx, hb, hml, hown, hts⟩ (m_maskOf l D z x hin) (va_cwS 1 hts gX1_write_X1_maskOf rfl rfl rfl (by decide +kernel) ⟨Nat.le_of_ble_eq_true rfl, Nat.le_of_ble_eq_true rfl⟩) (hP.sub (ws' := []) [] rfl) (hK.sub (tys' := []) [] rfl) hZ hS rfl hl.1 rfl (Nat.le_of_ble_eq_true rfl) dX1_write_78 ⟨Nat.zero_le _, Nat.zero_le _⟩ ?_
        refine lv_iand hx hb dX1_write_81 ?_
        refine cf_wcallN (As := [.int x, .int (-1), .int (v &&& (mf_mask x))]) (rest := []) (wc := cf_W 1 h0 h1 cA k md tm al ln od) (wr := []) (wF := cf_W 1 h0 h1 cA (mf_put k x (-1) (v &&& (mf_mask x))) md tm al ln od) ⟨hx, hb, hml, hown, hts⟩ (m_put l D z h0 h1 cA k md tm al ln od s.heap.size x (-1) (v &&& (mf_mask x)) hin) (cwV 3 hts gX1_write_X1_put rfl rfl rfl (by decide +kernel) ⟨Nat.le_of_ble_eq_true rfl, Nat.le_of_ble_eq_true rfl⟩) hP hD hK hZ hS hA hP [0, 1] [] rfl rfl rfl rfl (by decide) (ci := 1) (q0 := 0) rfl rfl rfl rfl hl.1 rfl (Nat.le_of_ble_eq_true rfl) dX1_write_82 ⟨Nat.zero_le _, Nat.zero_le _⟩ (fun H locs hP hD hS => ?_)
        have hP : va_P D vwCl (cf_W 1 h0 h1 cA (mf_put k x (-1) (v &&& (mf_mask x))) md tm al ln od) H := hP
        have hD : va_D A (cf_W 1 h0 h1 cA (mf_put k x (-1) (v &&& (mf_mask x))) md tm al ln od) := hD
        exact cf_wrEndN hx hb hr hlocks hP hD hK hS (by simp only [mf_write, if_neg c_1, if_neg c_2, if_neg c_3, if_neg cf_n10, if_pos cf_p00, ↓reduceIte]) dX1_write_85
      · skip
        refine lv_aload_n hx hb dX1_write_62 rfl (lv_at hl 0 rfl) ?_
        refine lv_bipush (v := 24) hx hb dX1_write_63 (by decide) ?_
        refine lv_iconst (v := 4) hx hb dX1_write_65 (by decide) ?_
        refine lv_iload_n hx hb dX1_write_66 rfl (lv_at hl 2 rfl) ?_
        refine cf_wcallN (As := [.int 24, .int 4, .int v]) (rest := []) (wc := cf_W 1 h0 h1 cA k md tm al ln od) (wr := []) (wF := cf_W 1 h0 h1 cA (mf_put k 24 4 v) md tm al ln od) ⟨hx, hb, hml, hown, hts⟩ (m_put l D z h0 h1 cA k md tm al ln od s.heap.size 24 4 v (show vp_in (24 : Int32) 29 from vp_in_nI (n := 24) (by decide) (by decide))) (cwV 3 hts gX1_write_X1_put rfl rfl rfl (by decide +kernel) ⟨Nat.le_of_ble_eq_true rfl, Nat.le_of_ble_eq_true rfl⟩) hP hD hK hZ hS hA hP [0, 1] [] rfl rfl rfl rfl (by decide) (ci := 1) (q0 := 0) rfl rfl rfl rfl hl.1 rfl (Nat.le_of_ble_eq_true rfl) dX1_write_67 ⟨Nat.zero_le _, Nat.zero_le _⟩ (fun H locs hP hD hS => ?_)
        have hP : va_P D vwCl (cf_W 1 h0 h1 cA (mf_put k 24 4 v) md tm al ln od) H := hP
        have hD : va_D A (cf_W 1 h0 h1 cA (mf_put k 24 4 v) md tm al ln od) := hD
        refine lv_goto (tgt := 85) hx hb dX1_write_70 (by decide) ?_
        exact cf_wrEndN hx hb hr hlocks hP hD hK hS (by simp only [mf_write, if_neg c_1, if_neg c_2, if_pos c_3, if_neg cf_n10, if_pos cf_p00, ↓reduceIte]) dX1_write_85
    · skip
      refine lv_aload_n hx hb dX1_write_35 rfl (lv_at hl 0 rfl) ?_
      refine lv_bipush (v := 24) hx hb dX1_write_36 (by decide) ?_
      refine lv_aload_n hx hb dX1_write_38 rfl (lv_at hl 0 rfl) ?_
      refine va_get (D := D) (ci := 1) (v := .ref h1) (C := RX1) (T := TX1) (N := 6) hx hb hts hin0 hown hK hP 0 rfl rfl 0 (by decide) (hts (.fieldLink RX1 7 "ControlFileModel" "kept" "[I") (by decide +kernel)) (fun _ h9 => h9) rfl dX1_write_39 ?_
      refine lv_bipush (v := 20) hx hb dX1_write_42 (by decide) ?_
      refine cf_ld 20 hx hb hK hP 1 0 rfl rfl rfl (by decide) dX1_write_44 ?_
      refine lv_iconst (v := 4) hx hb dX1_write_45 (by decide) ?_
      refine lv_iand hx hb dX1_write_46 ?_
      refine lv_iload_n hx hb dX1_write_47 rfl (lv_at hl 2 rfl) ?_
      refine lv_iconst (v := 1) hx hb dX1_write_48 (by decide) ?_
      refine lv_ishl hx hb dX1_write_49 ?_
      refine cf_wcallN (As := [.int 24, .int ((k 20) &&& 4), .int (v <<< ((1 : Int32) &&& 31))]) (rest := []) (wc := cf_W 1 h0 h1 cA k md tm al ln od) (wr := []) (wF := cf_W 1 h0 h1 cA (mf_put k 24 ((k 20) &&& 4) (v <<< ((1 : Int32) &&& 31))) md tm al ln od) ⟨hx, hb, hml, hown, hts⟩ (m_put l D z h0 h1 cA k md tm al ln od s.heap.size 24 ((k 20) &&& 4) (v <<< ((1 : Int32) &&& 31)) (show vp_in (24 : Int32) 29 from vp_in_nI (n := 24) (by decide) (by decide))) (cwV 3 hts gX1_write_X1_put rfl rfl rfl (by decide +kernel) ⟨Nat.le_of_ble_eq_true rfl, Nat.le_of_ble_eq_true rfl⟩) hP hD hK hZ hS hA hP [0, 1] [] rfl rfl rfl rfl (by decide) (ci := 1) (q0 := 0) rfl rfl rfl rfl hl.1 rfl (Nat.le_of_ble_eq_true rfl) dX1_write_50 ⟨Nat.zero_le _, Nat.zero_le _⟩ (fun H locs hP hD hS => ?_)
      have hP : va_P D vwCl (cf_W 1 h0 h1 cA (mf_put k 24 ((k 20) &&& 4) (v <<< ((1 : Int32) &&& 31))) md tm al ln od) H := hP
      have hD : va_D A (cf_W 1 h0 h1 cA (mf_put k 24 ((k 20) &&& 4) (v <<< ((1 : Int32) &&& 31))) md tm al ln od) := hD
      refine lv_goto (tgt := 85) hx hb dX1_write_53 (by decide) ?_
      exact cf_wrEndN hx hb hr hlocks hP hD hK hS (by simp only [mf_write, if_neg c_1, if_pos c_2, if_neg cf_n10, if_pos cf_p00, ↓reduceIte]) dX1_write_85
  · skip
    refine lv_aload_n hx hb dX1_write_6 rfl (lv_at hl 0 rfl) ?_
    refine lv_bipush (v := 21) hx hb dX1_write_7 (by decide) ?_
    refine lv_aload_n hx hb dX1_write_9 rfl (lv_at hl 0 rfl) ?_
    refine va_get (D := D) (ci := 1) (v := .ref h1) (C := RX1) (T := TX1) (N := 6) hx hb hts hin0 hown hK hP 0 rfl rfl 0 (by decide) (hts (.fieldLink RX1 7 "ControlFileModel" "kept" "[I") (by decide +kernel)) (fun _ h9 => h9) rfl dX1_write_10 ?_
    refine lv_bipush (v := 20) hx hb dX1_write_13 (by decide) ?_
    refine cf_ld 20 hx hb hK hP 1 0 rfl rfl rfl (by decide) dX1_write_15 ?_
    refine lv_sipush (v := 1092) hx hb dX1_write_16 (by decide) ?_
    refine lv_iand hx hb dX1_write_19 ?_
    refine lv_iload_n hx hb dX1_write_20 rfl (lv_at hl 2 rfl) ?_
    refine lv_iconst (v := 1) hx hb dX1_write_21 (by decide) ?_
    refine lv_ishl hx hb dX1_write_22 ?_
    refine cf_wcallN (As := [.int 21, .int ((k 20) &&& 1092), .int (v <<< ((1 : Int32) &&& 31))]) (rest := []) (wc := cf_W 1 h0 h1 cA k md tm al ln od) (wr := []) (wF := cf_W 1 h0 h1 cA (mf_put k 21 ((k 20) &&& 1092) (v <<< ((1 : Int32) &&& 31))) md tm al ln od) ⟨hx, hb, hml, hown, hts⟩ (m_put l D z h0 h1 cA k md tm al ln od s.heap.size 21 ((k 20) &&& 1092) (v <<< ((1 : Int32) &&& 31)) (show vp_in (21 : Int32) 29 from vp_in_nI (n := 21) (by decide) (by decide))) (cwV 3 hts gX1_write_X1_put rfl rfl rfl (by decide +kernel) ⟨Nat.le_of_ble_eq_true rfl, Nat.le_of_ble_eq_true rfl⟩) hP hD hK hZ hS hA hP [0, 1] [] rfl rfl rfl rfl (by decide) (ci := 1) (q0 := 0) rfl rfl rfl rfl hl.1 rfl (Nat.le_of_ble_eq_true rfl) dX1_write_23 ⟨Nat.zero_le _, Nat.zero_le _⟩ (fun H locs hP hD hS => ?_)
    have hP : va_P D vwCl (cf_W 1 h0 h1 cA (mf_put k 21 ((k 20) &&& 1092) (v <<< ((1 : Int32) &&& 31))) md tm al ln od) H := hP
    have hD : va_D A (cf_W 1 h0 h1 cA (mf_put k 21 ((k 20) &&& 1092) (v <<< ((1 : Int32) &&& 31))) md tm al ln od) := hD
    refine lv_goto (tgt := 85) hx hb dX1_write_26 (by decide) ?_
    exact cf_wrEndN hx hb hr hlocks hP hD hK hS (by simp only [mf_write, if_pos c_1, if_neg cf_n10, if_pos cf_p00, ↓reduceIte]) dX1_write_85
set_option maxHeartbeats 4000000 in
set_option maxRecDepth 100000 in
theorem m_access (l : Launch) (D : va_G) (z : Nat → Nat) (h0 h1 : Nat) (cA : ClassId) (k : Nat → Int32) (md : Int32) (tm al : Int64) (ln od : Int32) (sz : Nat) (n : Int32) (kd : Int32) (v : Int32) : Met l yX1_access wsX1_access ({ frames := 2, cells := 0, slots := 0, locals := 46 } : Room) (cf_wr [.ref h0, .int n, .int kd, .int v] D (cf_W 1 h0 h1 cA k md tm al ln od) [(cA, .int)] sz z) (va_Qi (fun r u => r = mf_accR k md n kd ∧ u = cf_W 1 h0 h1 cA (mf_accK k md tm al ln n kd v) md tm al ln (mf_accO k md tm al ln od n kd)) (cf_B D [(cA, .int)] (va_A (cf_W 1 h0 h1 cA k md tm al ln od) sz)) (va_A (cf_W 1 h0 h1 cA k md tm al ln od) sz)) 0 0 (va_A (cf_W 1 h0 h1 cA k md tm al ln od) sz) := by
  refine Met.ofW (cc := cX1_access) (maxL := 7) (ret := (some .int)) (by decide) rfl ?_
  intro p e s m args below meth c s₁ B hml hv
  obtain ⟨rfl, hsz, hP, hK, hD0, hZ⟩ := hv
  have hx := B.exec
  have hb := B.bytes
  have hr := B.returns
  have hts := atoms_spec (ws := wsX1_access) B.pre
  have hown : s.vm.findClass RX1 = some m.cls := findClass_of_methodNamed B.named
  have hlocks := B.notSynchronized
  have hin0 : ∀ w ∈ wsX10, w ∈ wsX1_access := by decide +kernel
  subst hsz
  have hD := hD0.self (sz := s.heap.size)
  generalize hAe : va_A (cf_W 1 h0 h1 cA k md tm al ln od) s.heap.size = A at hD hZ ⊢
  have hA : ∀ q : Nat, s.heap.size ≤ q → A q := fun q h => by rw [← hAe]; exact Or.inr h
  have hS : va_S A s.heap s.heap [] := va_S.rf
  have hl := lv_entry ([.ref h0, .int n, .int kd, .int v]) (n := 7) (Nat.le_of_ble_eq_true rfl)
  rw [lg_entry_eq]
  generalize (lg_sl ([.ref h0, .int n, .int kd, .int v]) ++ List.replicate (7 - (lg_sl ([.ref h0, .int n, .int kd, .int v])).length) Slot.unset).toArray = ls at hl ⊢
  have hl : lv_has ls 7 [(0, .ref h0), (1, .int n), (2, .int kd), (3, .int v)] := hl
  refine lv_iload_n hx hb dX1_access_0 rfl (lv_at hl 2 rfl) ?_
  refine lv_if_lt (tgt := 9) hx hb dX1_access_1 (by decide) (fun c_1 => ?_) (fun c_1 => ?_)
  · skip
    refine lv_iconst (v := -1) hx hb dX1_access_9 (by decide) ?_
    exact cf_wrEnd hx hb hr hlocks hP hD hK hS (by simp only [mf_accR, mf_accO, mf_accK, mf_bit, mf_at, cf_wrt, if_pos c_1, if_neg cf_n10, if_pos cf_p00, ↓reduceIte]) (by simp only [mf_accR, mf_accO, mf_accK, mf_bit, mf_at, cf_wrt, if_pos c_1, if_neg cf_n10, if_pos cf_p00, ↓reduceIte]) dX1_access_10
  · skip
    refine lv_iload_n hx hb dX1_access_4 rfl (lv_at hl 2 rfl) ?_
    refine lv_iconst (v := 3) hx hb dX1_access_5 (by decide) ?_
    refine lv_icmp_le (tgt := 11) hx hb dX1_access_6 (by decide) (fun c_2 => ?_) (fun c_2 => ?_)
    · skip
      refine lv_iload_n hx hb dX1_access_11 rfl (lv_at hl 1 rfl) ?_
      refine cf_callS (As := [.int n]) (rest := []) ⟨hx, hb, hml, hown, hts⟩ (m_placeOf l D z n) (va_cwS 1 hts gX1_access_X1_placeOf rfl rfl rfl (by decide +kernel) ⟨Nat.le_of_ble_eq_true rfl, Nat.le_of_ble_eq_true rfl⟩) (hP.sub (ws' := []) [] rfl) (hK.sub (tys' := []) [] rfl) hZ hS rfl hl.1 rfl (Nat.le_of_ble_eq_true rfl) dX1_access_12 ⟨Nat.zero_le _, Nat.zero_le _⟩ ?_
      refine lv_istore (lv' := [(4, .int (mf_place n)), (0, .ref h0), (1, .int n), (2, .int kd), (3, .int v)]) hx hb dX1_access_15 hl (by decide) rfl (fun ls hl => ?_)
      refine lv_aload_n hx hb dX1_access_17 rfl (lv_at hl 1 rfl) ?_
      refine lv_iload hx hb dX1_access_18 (lv_at hl 0 rfl) ?_
      refine lv_iload_n hx hb dX1_access_20 rfl (lv_at hl 3 rfl) ?_
      refine lv_if_le (tgt := 28) hx hb dX1_access_21 (by decide) (fun c_3 => ?_) (fun c_3 => ?_)
      · skip
        refine lv_iconst (v := 0) hx hb dX1_access_28 (by decide) ?_
        refine cf_callV (As := [.int (mf_place n), .int 0]) (rest := []) ⟨hx, hb, hml, hown, hts⟩ (m_refusal l D z h0 h1 cA k md tm al ln od (mf_place n) 0) (cwV 2 hts gX1_access_X1_refusal rfl rfl rfl (by decide +kernel) ⟨Nat.le_of_ble_eq_true rfl, Nat.le_of_ble_eq_true rfl⟩) hP hK hZ hS (ci := 1) (q0 := 0) rfl rfl rfl rfl hl.1 rfl (Nat.le_of_ble_eq_true rfl) dX1_access_29 ⟨Nat.zero_le _, Nat.zero_le _⟩ ?_
        refine lv_istore (lv' := [(5, .int (mf_ref k md (mf_place n) 0)), (4, .int (mf_place n)), (0, .ref h0), (1, .int n), (2, .int kd), (3, .int v)]) hx hb dX1_access_32 hl (by decide) rfl (fun ls hl => ?_)
        refine lv_iload hx hb dX1_access_34 (lv_at hl 0 rfl) ?_
        refine lv_if_le (tgt := 42) hx hb dX1_access_36 (by decide) (fun c_4 => ?_) (fun c_4 => ?_)
        · skip
          refine lv_aload_n hx hb dX1_access_42 rfl (lv_at hl 2 rfl) ?_
          refine va_get (D := D) (ci := 1) (v := .int md) (C := RX1) (T := TX1) (N := 6) hx hb hts hin0 hown hK hP 0 rfl rfl 1 (by decide) (hts (.fieldLink RX1 16 "ControlFileModel" "mode" "I") (by decide +kernel)) (fun _ h9 => h9) rfl dX1_access_43 ?_
          refine lv_iconst (v := 3) hx hb dX1_access_46 (by decide) ?_
          refine lv_icmp_ne (tgt := 65) hx hb dX1_access_47 (by decide) (fun c_5 => ?_) (fun c_5 => ?_)
          · skip
            refine lv_iload hx hb dX1_access_65 (lv_at hl 1 rfl) ?_
            refine lv_istore (lv' := [(6, .int (mf_place n)), (5, .int (mf_ref k md (mf_place n) 0)), (4, .int (mf_place n)), (0, .ref h0), (1, .int n), (2, .int kd), (3, .int v)]) hx hb dX1_access_67 hl (by decide) rfl (fun ls hl => ?_)
            have hin1 : vp_in (mf_place n) 29 := mf_in1 c_4
            refine lv_aload_n hx hb dX1_access_69 rfl (lv_at hl 3 rfl) ?_
            refine lv_aload_n hx hb dX1_access_70 rfl (lv_at hl 3 rfl) ?_
            refine lv_iload hx hb dX1_access_71 (lv_at hl 0 rfl) ?_
            refine cf_callV (As := [.int (mf_place n)]) (rest := [.ref h0]) ⟨hx, hb, hml, hown, hts⟩ (m_tells l D z h0 h1 cA k md tm al ln od (mf_place n) hin1) (cwV 1 hts gX1_access_X1_tells rfl rfl rfl (by decide +kernel) ⟨Nat.le_of_ble_eq_true rfl, Nat.le_of_ble_eq_true rfl⟩) hP hK hZ hS (ci := 1) (q0 := 0) rfl rfl rfl rfl hl.1 rfl (Nat.le_of_ble_eq_true rfl) dX1_access_73 ⟨Nat.zero_le _, Nat.zero_le _⟩ ?_
            refine va_put (D := D) (ci := 1) (v := .int (mf_tell k tm al ln (mf_place n))) (ty := .int) (C := RX1) (T := TX1) (N := 6) hx hb hts hin0 tyX1 tyX1_ok nmX1 hown hK hP hD hS 0 rfl rfl 5 (by decide) (hts (.fieldLink RX1 33 "ControlFileModel" "old" "I") (by decide +kernel)) (fun _ h9 => h9) rfl (by decide +kernel) rfl rfl (Nat.le_of_ble_eq_true rfl) dX1_access_76 (fun H locs hP hD hS => ?_)
            have hP : va_P D vwCl (cf_W 1 h0 h1 cA k md tm al ln (mf_tell k tm al ln (mf_place n))) H := hP
            have hD : va_D A (cf_W 1 h0 h1 cA k md tm al ln (mf_tell k tm al ln (mf_place n))) := hD
            refine lv_iload_n hx hb dX1_access_79 rfl (lv_at hl 5 rfl) ?_
            refine lv_if_le (tgt := 120) hx hb dX1_access_80 (by decide) (fun c_6 => ?_) (fun c_6 => ?_)
            · skip
              refine lv_iconst (v := 0) hx hb dX1_access_120 (by decide) ?_
              exact cf_wrEnd hx hb hr hlocks hP hD hK hS (by simp only [mf_accR, mf_accO, mf_accK, mf_bit, mf_at, cf_wrt, if_neg c_1, if_pos c_2, if_pos c_3, if_pos c_4, if_neg c_5, if_pos c_6, if_neg cf_n10, if_pos cf_p00, ↓reduceIte]) (by simp only [mf_accR, mf_accO, mf_accK, mf_bit, mf_at, cf_wrt, if_neg c_1, if_pos c_2, if_pos c_3, if_pos c_4, if_neg c_5, if_pos c_6, if_neg cf_n10, if_pos cf_p00, ↓reduceIte]) dX1_access_121
            · skip
              exact absurd c_3 c_6
          · skip
            refine lv_iload hx hb dX1_access_50 (lv_at hl 1 rfl) ?_
            refine lv_bipush (v := 8) hx hb dX1_access_52 (by decide) ?_
            refine lv_icmp_gt (tgt := 65) hx hb dX1_access_54 (by decide) (fun c_7 => ?_) (fun c_7 => ?_)
            · skip
              refine lv_iload hx hb dX1_access_65 (lv_at hl 1 rfl) ?_
              refine lv_istore (lv' := [(6, .int (mf_place n)), (5, .int (mf_ref k md (mf_place n) 0)), (4, .int (mf_place n)), (0, .ref h0), (1, .int n), (2, .int kd), (3, .int v)]) hx hb dX1_access_67 hl (by decide) rfl (fun ls hl => ?_)
              have hin1 : vp_in (mf_place n) 29 := mf_in1 c_4
              refine lv_aload_n hx hb dX1_access_69 rfl (lv_at hl 3 rfl) ?_
              refine lv_aload_n hx hb dX1_access_70 rfl (lv_at hl 3 rfl) ?_
              refine lv_iload hx hb dX1_access_71 (lv_at hl 0 rfl) ?_
              refine cf_callV (As := [.int (mf_place n)]) (rest := [.ref h0]) ⟨hx, hb, hml, hown, hts⟩ (m_tells l D z h0 h1 cA k md tm al ln od (mf_place n) hin1) (cwV 1 hts gX1_access_X1_tells rfl rfl rfl (by decide +kernel) ⟨Nat.le_of_ble_eq_true rfl, Nat.le_of_ble_eq_true rfl⟩) hP hK hZ hS (ci := 1) (q0 := 0) rfl rfl rfl rfl hl.1 rfl (Nat.le_of_ble_eq_true rfl) dX1_access_73 ⟨Nat.zero_le _, Nat.zero_le _⟩ ?_
              refine va_put (D := D) (ci := 1) (v := .int (mf_tell k tm al ln (mf_place n))) (ty := .int) (C := RX1) (T := TX1) (N := 6) hx hb hts hin0 tyX1 tyX1_ok nmX1 hown hK hP hD hS 0 rfl rfl 5 (by decide) (hts (.fieldLink RX1 33 "ControlFileModel" "old" "I") (by decide +kernel)) (fun _ h9 => h9) rfl (by decide +kernel) rfl rfl (Nat.le_of_ble_eq_true rfl) dX1_access_76 (fun H locs hP hD hS => ?_)
              have hP : va_P D vwCl (cf_W 1 h0 h1 cA k md tm al ln (mf_tell k tm al ln (mf_place n))) H := hP
              have hD : va_D A (cf_W 1 h0 h1 cA k md tm al ln (mf_tell k tm al ln (mf_place n))) := hD
              refine lv_iload_n hx hb dX1_access_79 rfl (lv_at hl 5 rfl) ?_
              refine lv_if_le (tgt := 120) hx hb dX1_access_80 (by decide) (fun c_8 => ?_) (fun c_8 => ?_)
              · skip
                refine lv_iconst (v := 0) hx hb dX1_access_120 (by decide) ?_
                exact cf_wrEnd hx hb hr hlocks hP hD hK hS (by simp only [mf_accR, mf_accO, mf_accK, mf_bit, mf_at, cf_wrt, if_neg c_1, if_pos c_2, if_pos c_3, if_pos c_4, if_pos c_5, if_pos c_7, if_pos c_8, if_neg cf_n10, if_pos cf_p00, ↓reduceIte]) (by simp only [mf_accR, mf_accO, mf_accK, mf_bit, mf_at, cf_wrt, if_neg c_1, if_pos c_2, if_pos c_3, if_pos c_4, if_pos c_5, if_pos c_7, if_pos c_8, if_neg cf_n10, if_pos cf_p00, ↓reduceIte]) dX1_access_121
              · skip
                exact absurd c_3 c_8
            · skip
              refine lv_iload hx hb dX1_access_57 (lv_at hl 1 rfl) ?_
              refine lv_bipush (v := 9) hx hb dX1_access_59 (by decide) ?_
              refine lv_iadd hx hb dX1_access_61 ?_
              refine lv_goto (tgt := 67) hx hb dX1_access_62 (by decide) ?_
              refine lv_istore (lv' := [(6, .int ((mf_place n) + 9)), (5, .int (mf_ref k md (mf_place n) 0)), (4, .int (mf_place n)), (0, .ref h0), (1, .int n), (2, .int kd), (3, .int v)]) hx hb dX1_access_67 hl (by decide) rfl (fun ls hl => ?_)
              have hin1 : vp_in (mf_place n) 29 := mf_in1 c_4
              have hin2 : vp_in ((mf_place n) + 9) 29 := mf_in2 hin1 c_7
              refine lv_aload_n hx hb dX1_access_69 rfl (lv_at hl 3 rfl) ?_
              refine lv_aload_n hx hb dX1_access_70 rfl (lv_at hl 3 rfl) ?_
              refine lv_iload hx hb dX1_access_71 (lv_at hl 0 rfl) ?_
              refine cf_callV (As := [.int ((mf_place n) + 9)]) (rest := [.ref h0]) ⟨hx, hb, hml, hown, hts⟩ (m_tells l D z h0 h1 cA k md tm al ln od ((mf_place n) + 9) hin2) (cwV 1 hts gX1_access_X1_tells rfl rfl rfl (by decide +kernel) ⟨Nat.le_of_ble_eq_true rfl, Nat.le_of_ble_eq_true rfl⟩) hP hK hZ hS (ci := 1) (q0 := 0) rfl rfl rfl rfl hl.1 rfl (Nat.le_of_ble_eq_true rfl) dX1_access_73 ⟨Nat.zero_le _, Nat.zero_le _⟩ ?_
              refine va_put (D := D) (ci := 1) (v := .int (mf_tell k tm al ln ((mf_place n) + 9))) (ty := .int) (C := RX1) (T := TX1) (N := 6) hx hb hts hin0 tyX1 tyX1_ok nmX1 hown hK hP hD hS 0 rfl rfl 5 (by decide) (hts (.fieldLink RX1 33 "ControlFileModel" "old" "I") (by decide +kernel)) (fun _ h9 => h9) rfl (by decide +kernel) rfl rfl (Nat.le_of_ble_eq_true rfl) dX1_access_76 (fun H locs hP hD hS => ?_)
              have hP : va_P D vwCl (cf_W 1 h0 h1 cA k md tm al ln (mf_tell k tm al ln ((mf_place n) + 9))) H := hP
              have hD : va_D A (cf_W 1 h0 h1 cA k md tm al ln (mf_tell k tm al ln ((mf_place n) + 9))) := hD
              refine lv_iload_n hx hb dX1_access_79 rfl (lv_at hl 5 rfl) ?_
              refine lv_if_le (tgt := 120) hx hb dX1_access_80 (by decide) (fun c_9 => ?_) (fun c_9 => ?_)
              · skip
                refine lv_iconst (v := 0) hx hb dX1_access_120 (by decide) ?_
                exact cf_wrEnd hx hb hr hlocks hP hD hK hS (by simp only [mf_accR, mf_accO, mf_accK, mf_bit, mf_at, cf_wrt, if_neg c_1, if_pos c_2, if_pos c_3, if_pos c_4, if_pos c_5, if_neg c_7, if_pos c_9, if_neg cf_n10, if_pos cf_p00, ↓reduceIte]) (by simp only [mf_accR, mf_accO, mf_accK, mf_bit, mf_at, cf_wrt, if_neg c_1, if_pos c_2, if_pos c_3, if_pos c_4, if_pos c_5, if_neg c_7, if_pos c_9, if_neg cf_n10, if_pos cf_p00, ↓reduceIte]) dX1_access_121
              · skip
                exact absurd c_3 c_9
        · skip
          refine lv_iload hx hb dX1_access_39 (lv_at hl 0 rfl) ?_
          exact cf_wrEnd hx hb hr hlocks hP hD hK hS (by simp only [mf_accR, mf_accO, mf_accK, mf_bit, mf_at, cf_wrt, if_neg c_1, if_pos c_2, if_pos c_3, if_neg c_4, if_neg cf_n10, if_pos cf_p00, ↓reduceIte]) (by simp only [mf_accR, mf_accO, mf_accK, mf_bit, mf_at, cf_wrt, if_neg c_1, if_pos c_2, if_pos c_3, if_neg c_4, if_neg cf_n10, if_pos cf_p00, ↓reduceIte]) dX1_access_41
      · skip
        refine lv_iconst (v := 1) hx hb dX1_access_24 (by decide) ?_
        refine lv_goto (tgt := 29) hx hb dX1_access_25 (by decide) ?_
        refine cf_callV (As := [.int (mf_place n), .int 1]) (rest := []) ⟨hx, hb, hml, hown, hts⟩ (m_refusal l D z h0 h1 cA k md tm al ln od (mf_place n) 1) (cwV 2 hts gX1_access_X1_refusal rfl rfl rfl (by decide +kernel) ⟨Nat.le_of_ble_eq_true rfl, Nat.le_of_ble_eq_true rfl⟩) hP hK hZ hS (ci := 1) (q0 := 0) rfl rfl rfl rfl hl.1 rfl (Nat.le_of_ble_eq_true rfl) dX1_access_29 ⟨Nat.zero_le _, Nat.zero_le _⟩ ?_
        refine lv_istore (lv' := [(5, .int (mf_ref k md (mf_place n) 1)), (4, .int (mf_place n)), (0, .ref h0), (1, .int n), (2, .int kd), (3, .int v)]) hx hb dX1_access_32 hl (by decide) rfl (fun ls hl => ?_)
        refine lv_iload hx hb dX1_access_34 (lv_at hl 0 rfl) ?_
        refine lv_if_le (tgt := 42) hx hb dX1_access_36 (by decide) (fun c_10 => ?_) (fun c_10 => ?_)
        · skip
          refine lv_aload_n hx hb dX1_access_42 rfl (lv_at hl 2 rfl) ?_
          refine va_get (D := D) (ci := 1) (v := .int md) (C := RX1) (T := TX1) (N := 6) hx hb hts hin0 hown hK hP 0 rfl rfl 1 (by decide) (hts (.fieldLink RX1 16 "ControlFileModel" "mode" "I") (by decide +kernel)) (fun _ h9 => h9) rfl dX1_access_43 ?_
          refine lv_iconst (v := 3) hx hb dX1_access_46 (by decide) ?_
          refine lv_icmp_ne (tgt := 65) hx hb dX1_access_47 (by decide) (fun c_11 => ?_) (fun c_11 => ?_)
          · skip
            refine lv_iload hx hb dX1_access_65 (lv_at hl 1 rfl) ?_
            refine lv_istore (lv' := [(6, .int (mf_place n)), (5, .int (mf_ref k md (mf_place n) 1)), (4, .int (mf_place n)), (0, .ref h0), (1, .int n), (2, .int kd), (3, .int v)]) hx hb dX1_access_67 hl (by decide) rfl (fun ls hl => ?_)
            have hin1 : vp_in (mf_place n) 29 := mf_in1 c_10
            refine lv_aload_n hx hb dX1_access_69 rfl (lv_at hl 3 rfl) ?_
            refine lv_aload_n hx hb dX1_access_70 rfl (lv_at hl 3 rfl) ?_
            refine lv_iload hx hb dX1_access_71 (lv_at hl 0 rfl) ?_
            refine cf_callV (As := [.int (mf_place n)]) (rest := [.ref h0]) ⟨hx, hb, hml, hown, hts⟩ (m_tells l D z h0 h1 cA k md tm al ln od (mf_place n) hin1) (cwV 1 hts gX1_access_X1_tells rfl rfl rfl (by decide +kernel) ⟨Nat.le_of_ble_eq_true rfl, Nat.le_of_ble_eq_true rfl⟩) hP hK hZ hS (ci := 1) (q0 := 0) rfl rfl rfl rfl hl.1 rfl (Nat.le_of_ble_eq_true rfl) dX1_access_73 ⟨Nat.zero_le _, Nat.zero_le _⟩ ?_
            refine va_put (D := D) (ci := 1) (v := .int (mf_tell k tm al ln (mf_place n))) (ty := .int) (C := RX1) (T := TX1) (N := 6) hx hb hts hin0 tyX1 tyX1_ok nmX1 hown hK hP hD hS 0 rfl rfl 5 (by decide) (hts (.fieldLink RX1 33 "ControlFileModel" "old" "I") (by decide +kernel)) (fun _ h9 => h9) rfl (by decide +kernel) rfl rfl (Nat.le_of_ble_eq_true rfl) dX1_access_76 (fun H locs hP hD hS => ?_)
            have hP : va_P D vwCl (cf_W 1 h0 h1 cA k md tm al ln (mf_tell k tm al ln (mf_place n))) H := hP
            have hD : va_D A (cf_W 1 h0 h1 cA k md tm al ln (mf_tell k tm al ln (mf_place n))) := hD
            refine lv_iload_n hx hb dX1_access_79 rfl (lv_at hl 5 rfl) ?_
            refine lv_if_le (tgt := 120) hx hb dX1_access_80 (by decide) (fun c_12 => ?_) (fun c_12 => ?_)
            · skip
              exact absurd c_12 c_3
            · skip
              refine lv_aload_n hx hb dX1_access_83 rfl (lv_at hl 3 rfl) ?_
              refine lv_iload hx hb dX1_access_84 (lv_at hl 0 rfl) ?_
              refine lv_iload_n hx hb dX1_access_86 rfl (lv_at hl 5 rfl) ?_
              refine lv_iconst (v := 1) hx hb dX1_access_87 (by decide) ?_
              refine lv_icmp_ne (tgt := 95) hx hb dX1_access_88 (by decide) (fun c_13 => ?_) (fun c_13 => ?_)
              · skip
                refine lv_iload_n hx hb dX1_access_95 rfl (lv_at hl 5 rfl) ?_
                refine lv_iconst (v := 2) hx hb dX1_access_96 (by decide) ?_
                refine lv_icmp_ne (tgt := 109) hx hb dX1_access_97 (by decide) (fun c_14 => ?_) (fun c_14 => ?_)
                · skip
                  refine lv_aload_n hx hb dX1_access_109 rfl (lv_at hl 3 rfl) ?_
                  refine va_get (D := D) (ci := 1) (v := .int (mf_tell k tm al ln (mf_place n))) (C := RX1) (T := TX1) (N := 6) hx hb hts hin0 hown hK hP 0 rfl rfl 5 (by decide) (hts (.fieldLink RX1 33 "ControlFileModel" "old" "I") (by decide +kernel)) (fun _ h9 => h9) rfl dX1_access_110 ?_
                  refine lv_iload_n hx hb dX1_access_113 rfl (lv_at hl 6 rfl) ?_
                  refine lv_iconst (v := -1) hx hb dX1_access_114 (by decide) ?_
                  refine lv_ixor hx hb dX1_access_115 ?_
                  refine lv_iand hx hb dX1_access_116 ?_
                  refine cf_wcallN (As := [.int (mf_place n), .int ((mf_tell k tm al ln (mf_place n)) &&& (v ^^^ (-1)))]) (rest := []) (wc := cf_W 1 h0 h1 cA k md tm al ln (mf_tell k tm al ln (mf_place n))) (wr := []) (wF := cf_W 1 h0 h1 cA (mf_write k (mf_place n) ((mf_tell k tm al ln (mf_place n)) &&& (v ^^^ (-1)))) md tm al ln (mf_tell k tm al ln (mf_place n))) ⟨hx, hb, hml, hown, hts⟩ (m_write l D z h0 h1 cA k md tm al ln (mf_tell k tm al ln (mf_place n)) H.size (mf_place n) ((mf_tell k tm al ln (mf_place n)) &&& (v ^^^ (-1))) hin1) (cwV 2 hts gX1_access_X1_write rfl rfl rfl (by decide +kernel) ⟨Nat.le_of_ble_eq_true rfl, Nat.le_of_ble_eq_true rfl⟩) hP hD hK hZ hS hA hP [0, 1] [] rfl rfl rfl rfl (by decide) (ci := 1) (q0 := 0) rfl rfl rfl rfl hl.1 rfl (Nat.le_of_ble_eq_true rfl) dX1_access_117 ⟨Nat.zero_le _, Nat.zero_le _⟩ (fun H locs hP hD hS => ?_)
                  have hP : va_P D vwCl (cf_W 1 h0 h1 cA (mf_write k (mf_place n) ((mf_tell k tm al ln (mf_place n)) &&& (v ^^^ (-1)))) md tm al ln (mf_tell k tm al ln (mf_place n))) H := hP
                  have hD : va_D A (cf_W 1 h0 h1 cA (mf_write k (mf_place n) ((mf_tell k tm al ln (mf_place n)) &&& (v ^^^ (-1)))) md tm al ln (mf_tell k tm al ln (mf_place n))) := hD
                  refine lv_iconst (v := 0) hx hb dX1_access_120 (by decide) ?_
                  exact cf_wrEnd hx hb hr hlocks hP hD hK hS (by simp only [mf_accR, mf_accO, mf_accK, mf_bit, mf_at, cf_wrt, if_neg c_1, if_pos c_2, if_neg c_3, if_pos c_10, if_neg c_11, if_neg c_12, if_neg c_13, if_neg c_14, if_neg cf_n10, if_pos cf_p00, ↓reduceIte]) (by simp only [mf_accR, mf_accO, mf_accK, mf_bit, mf_at, cf_wrt, if_neg c_1, if_pos c_2, if_neg c_3, if_pos c_10, if_neg c_11, if_neg c_12, if_neg c_13, if_neg c_14, if_neg cf_n10, if_pos cf_p00, ↓reduceIte]) dX1_access_121
                · skip
                  refine lv_aload_n hx hb dX1_access_100 rfl (lv_at hl 3 rfl) ?_
                  refine va_get (D := D) (ci := 1) (v := .int (mf_tell k tm al ln (mf_place n))) (C := RX1) (T := TX1) (N := 6) hx hb hts hin0 hown hK hP 0 rfl rfl 5 (by decide) (hts (.fieldLink RX1 33 "ControlFileModel" "old" "I") (by decide +kernel)) (fun _ h9 => h9) rfl dX1_access_101 ?_
                  refine lv_iload_n hx hb dX1_access_104 rfl (lv_at hl 6 rfl) ?_
                  refine lv_ior hx hb dX1_access_105 ?_
                  refine lv_goto (tgt := 117) hx hb dX1_access_106 (by decide) ?_
                  refine cf_wcallN (As := [.int (mf_place n), .int ((mf_tell k tm al ln (mf_place n)) ||| v)]) (rest := []) (wc := cf_W 1 h0 h1 cA k md tm al ln (mf_tell k tm al ln (mf_place n))) (wr := []) (wF := cf_W 1 h0 h1 cA (mf_write k (mf_place n) ((mf_tell k tm al ln (mf_place n)) ||| v)) md tm al ln (mf_tell k tm al ln (mf_place n))) ⟨hx, hb, hml, hown, hts⟩ (m_write l D z h0 h1 cA k md tm al ln (mf_tell k tm al ln (mf_place n)) H.size (mf_place n) ((mf_tell k tm al ln (mf_place n)) ||| v) hin1) (cwV 2 hts gX1_access_X1_write rfl rfl rfl (by decide +kernel) ⟨Nat.le_of_ble_eq_true rfl, Nat.le_of_ble_eq_true rfl⟩) hP hD hK hZ hS hA hP [0, 1] [] rfl rfl rfl rfl (by decide) (ci := 1) (q0 := 0) rfl rfl rfl rfl hl.1 rfl (Nat.le_of_ble_eq_true rfl) dX1_access_117 ⟨Nat.zero_le _, Nat.zero_le _⟩ (fun H locs hP hD hS => ?_)
                  have hP : va_P D vwCl (cf_W 1 h0 h1 cA (mf_write k (mf_place n) ((mf_tell k tm al ln (mf_place n)) ||| v)) md tm al ln (mf_tell k tm al ln (mf_place n))) H := hP
                  have hD : va_D A (cf_W 1 h0 h1 cA (mf_write k (mf_place n) ((mf_tell k tm al ln (mf_place n)) ||| v)) md tm al ln (mf_tell k tm al ln (mf_place n))) := hD
                  refine lv_iconst (v := 0) hx hb dX1_access_120 (by decide) ?_
                  exact cf_wrEnd hx hb hr hlocks hP hD hK hS (by simp only [mf_accR, mf_accO, mf_accK, mf_bit, mf_at, cf_wrt, if_neg c_1, if_pos c_2, if_neg c_3, if_pos c_10, if_neg c_11, if_neg c_12, if_neg c_13, if_pos c_14, if_neg cf_n10, if_pos cf_p00, ↓reduceIte]) (by simp only [mf_accR, mf_accO, mf_accK, mf_bit, mf_at, cf_wrt, if_neg c_1, if_pos c_2, if_neg c_3, if_pos c_10, if_neg c_11, if_neg c_12, if_neg c_13, if_pos c_14, if_neg cf_n10, if_pos cf_p00, ↓reduceIte]) dX1_access_121
              · skip
                refine lv_iload_n hx hb dX1_access_91 rfl (lv_at hl 6 rfl) ?_
                refine lv_goto (tgt := 117) hx hb dX1_access_92 (by decide) ?_
                refine cf_wcallN (As := [.int (mf_place n), .int v]) (rest := []) (wc := cf_W 1 h0 h1 cA k md tm al ln (mf_tell k tm al ln (mf_place n))) (wr := []) (wF := cf_W 1 h0 h1 cA (mf_write k (mf_place n) v) md tm al ln (mf_tell k tm al ln (mf_place n))) ⟨hx, hb, hml, hown, hts⟩ (m_write l D z h0 h1 cA k md tm al ln (mf_tell k tm al ln (mf_place n)) H.size (mf_place n) v hin1) (cwV 2 hts gX1_access_X1_write rfl rfl rfl (by decide +kernel) ⟨Nat.le_of_ble_eq_true rfl, Nat.le_of_ble_eq_true rfl⟩) hP hD hK hZ hS hA hP [0, 1] [] rfl rfl rfl rfl (by decide) (ci := 1) (q0 := 0) rfl rfl rfl rfl hl.1 rfl (Nat.le_of_ble_eq_true rfl) dX1_access_117 ⟨Nat.zero_le _, Nat.zero_le _⟩ (fun H locs hP hD hS => ?_)
                have hP : va_P D vwCl (cf_W 1 h0 h1 cA (mf_write k (mf_place n) v) md tm al ln (mf_tell k tm al ln (mf_place n))) H := hP
                have hD : va_D A (cf_W 1 h0 h1 cA (mf_write k (mf_place n) v) md tm al ln (mf_tell k tm al ln (mf_place n))) := hD
                refine lv_iconst (v := 0) hx hb dX1_access_120 (by decide) ?_
                exact cf_wrEnd hx hb hr hlocks hP hD hK hS (by simp only [mf_accR, mf_accO, mf_accK, mf_bit, mf_at, cf_wrt, if_neg c_1, if_pos c_2, if_neg c_3, if_pos c_10, if_neg c_11, if_neg c_12, if_pos c_13, if_neg cf_n10, if_pos cf_p00, ↓reduceIte]) (by simp only [mf_accR, mf_accO, mf_accK, mf_bit, mf_at, cf_wrt, if_neg c_1, if_pos c_2, if_neg c_3, if_pos c_10, if_neg c_11, if_neg c_12, if_pos c_13, if_neg cf_n10, if_pos cf_p00, ↓reduceIte]) dX1_access_121
          · skip
            refine lv_iload hx hb dX1_access_50 (lv_at hl 1 rfl) ?_
            refine lv_bipush (v := 8) hx hb dX1_access_52 (by decide) ?_
            refine lv_icmp_gt (tgt := 65) hx hb dX1_access_54 (by decide) (fun c_15 => ?_) (fun c_15 => ?_)
            · skip
              refine lv_iload hx hb dX1_access_65 (lv_at hl 1 rfl) ?_
              refine lv_istore (lv' := [(6, .int (mf_place n)), (5, .int (mf_ref k md (mf_place n) 1)), (4, .int (mf_place n)), (0, .ref h0), (1, .int n), (2, .int kd), (3, .int v)]) hx hb dX1_access_67 hl (by decide) rfl (fun ls hl => ?_)
              have hin1 : vp_in (mf_place n) 29 := mf_in1 c_10
              refine lv_aload_n hx hb dX1_access_69 rfl (lv_at hl 3 rfl) ?_
              refine lv_aload_n hx hb dX1_access_70 rfl (lv_at hl 3 rfl) ?_
              refine lv_iload hx hb dX1_access_71 (lv_at hl 0 rfl) ?_
              refine cf_callV (As := [.int (mf_place n)]) (rest := [.ref h0]) ⟨hx, hb, hml, hown, hts⟩ (m_tells l D z h0 h1 cA k md tm al ln od (mf_place n) hin1) (cwV 1 hts gX1_access_X1_tells rfl rfl rfl (by decide +kernel) ⟨Nat.le_of_ble_eq_true rfl, Nat.le_of_ble_eq_true rfl⟩) hP hK hZ hS (ci := 1) (q0 := 0) rfl rfl rfl rfl hl.1 rfl (Nat.le_of_ble_eq_true rfl) dX1_access_73 ⟨Nat.zero_le _, Nat.zero_le _⟩ ?_
              refine va_put (D := D) (ci := 1) (v := .int (mf_tell k tm al ln (mf_place n))) (ty := .int) (C := RX1) (T := TX1) (N := 6) hx hb hts hin0 tyX1 tyX1_ok nmX1 hown hK hP hD hS 0 rfl rfl 5 (by decide) (hts (.fieldLink RX1 33 "ControlFileModel" "old" "I") (by decide +kernel)) (fun _ h9 => h9) rfl (by decide +kernel) rfl rfl (Nat.le_of_ble_eq_true rfl) dX1_access_76 (fun H locs hP hD hS => ?_)
              have hP : va_P D vwCl (cf_W 1 h0 h1 cA k md tm al ln (mf_tell k tm al ln (mf_place n))) H := hP
              have hD : va_D A (cf_W 1 h0 h1 cA k md tm al ln (mf_tell k tm al ln (mf_place n))) := hD
              refine lv_iload_n hx hb dX1_access_79 rfl (lv_at hl 5 rfl) ?_
              refine lv_if_le (tgt := 120) hx hb dX1_access_80 (by decide) (fun c_16 => ?_) (fun c_16 => ?_)
              · skip
                exact absurd c_16 c_3
              · skip
                refine lv_aload_n hx hb dX1_access_83 rfl (lv_at hl 3 rfl) ?_
                refine lv_iload hx hb dX1_access_84 (lv_at hl 0 rfl) ?_
                refine lv_iload_n hx hb dX1_access_86 rfl (lv_at hl 5 rfl) ?_
                refine lv_iconst (v := 1) hx hb dX1_access_87 (by decide) ?_
                refine lv_icmp_ne (tgt := 95) hx hb dX1_access_88 (by decide) (fun c_17 => ?_) (fun c_17 => ?_)
                · skip
                  refine lv_iload_n hx hb dX1_access_95 rfl (lv_at hl 5 rfl) ?_
                  refine lv_iconst (v := 2) hx hb dX1_access_96 (by decide) ?_
                  refine lv_icmp_ne (tgt := 109) hx hb dX1_access_97 (by decide) (fun c_18 => ?_) (fun c_18 => ?_)
                  · skip
                    refine lv_aload_n hx hb dX1_access_109 rfl (lv_at hl 3 rfl) ?_
                    refine va_get (D := D) (ci := 1) (v := .int (mf_tell k tm al ln (mf_place n))) (C := RX1) (T := TX1) (N := 6) hx hb hts hin0 hown hK hP 0 rfl rfl 5 (by decide) (hts (.fieldLink RX1 33 "ControlFileModel" "old" "I") (by decide +kernel)) (fun _ h9 => h9) rfl dX1_access_110 ?_
                    refine lv_iload_n hx hb dX1_access_113 rfl (lv_at hl 6 rfl) ?_
                    refine lv_iconst (v := -1) hx hb dX1_access_114 (by decide) ?_
                    refine lv_ixor hx hb dX1_access_115 ?_
                    refine lv_iand hx hb dX1_access_116 ?_
                    refine cf_wcallN (As := [.int (mf_place n), .int ((mf_tell k tm al ln (mf_place n)) &&& (v ^^^ (-1)))]) (rest := []) (wc := cf_W 1 h0 h1 cA k md tm al ln (mf_tell k tm al ln (mf_place n))) (wr := []) (wF := cf_W 1 h0 h1 cA (mf_write k (mf_place n) ((mf_tell k tm al ln (mf_place n)) &&& (v ^^^ (-1)))) md tm al ln (mf_tell k tm al ln (mf_place n))) ⟨hx, hb, hml, hown, hts⟩ (m_write l D z h0 h1 cA k md tm al ln (mf_tell k tm al ln (mf_place n)) H.size (mf_place n) ((mf_tell k tm al ln (mf_place n)) &&& (v ^^^ (-1))) hin1) (cwV 2 hts gX1_access_X1_write rfl rfl rfl (by decide +kernel) ⟨Nat.le_of_ble_eq_true rfl, Nat.le_of_ble_eq_true rfl⟩) hP hD hK hZ hS hA hP [0, 1] [] rfl rfl rfl rfl (by decide) (ci := 1) (q0 := 0) rfl rfl rfl rfl hl.1 rfl (Nat.le_of_ble_eq_true rfl) dX1_access_117 ⟨Nat.zero_le _, Nat.zero_le _⟩ (fun H locs hP hD hS => ?_)
                    have hP : va_P D vwCl (cf_W 1 h0 h1 cA (mf_write k (mf_place n) ((mf_tell k tm al ln (mf_place n)) &&& (v ^^^ (-1)))) md tm al ln (mf_tell k tm al ln (mf_place n))) H := hP
                    have hD : va_D A (cf_W 1 h0 h1 cA (mf_write k (mf_place n) ((mf_tell k tm al ln (mf_place n)) &&& (v ^^^ (-1)))) md tm al ln (mf_tell k tm al ln (mf_place n))) := hD
                    refine lv_iconst (v := 0) hx hb dX1_access_120 (by decide) ?_
                    exact cf_wrEnd hx hb hr hlocks hP hD hK hS (by simp only [mf_accR, mf_accO, mf_accK, mf_bit, mf_at, cf_wrt, if_neg c_1, if_pos c_2, if_neg c_3, if_pos c_10, if_pos c_11, if_pos c_15, if_neg c_16, if_neg c_17, if_neg c_18, if_neg cf_n10, if_pos cf_p00, ↓reduceIte]) (by simp only [mf_accR, mf_accO, mf_accK, mf_bit, mf_at, cf_wrt, if_neg c_1, if_pos c_2, if_neg c_3, if_pos c_10, if_pos c_11, if_pos c_15, if_neg c_16, if_neg c_17, if_neg c_18, if_neg cf_n10, if_pos cf_p00, ↓reduceIte]) dX1_access_121
                  · skip
                    refine lv_aload_n hx hb dX1_access_100 rfl (lv_at hl 3 rfl) ?_
                    refine va_get (D := D) (ci := 1) (v := .int (mf_tell k tm al ln (mf_place n))) (C := RX1) (T := TX1) (N := 6) hx hb hts hin0 hown hK hP 0 rfl rfl 5 (by decide) (hts (.fieldLink RX1 33 "ControlFileModel" "old" "I") (by decide +kernel)) (fun _ h9 => h9) rfl dX1_access_101 ?_
                    refine lv_iload_n hx hb dX1_access_104 rfl (lv_at hl 6 rfl) ?_
                    refine lv_ior hx hb dX1_access_105 ?_
                    refine lv_goto (tgt := 117) hx hb dX1_access_106 (by decide) ?_
                    refine cf_wcallN (As := [.int (mf_place n), .int ((mf_tell k tm al ln (mf_place n)) ||| v)]) (rest := []) (wc := cf_W 1 h0 h1 cA k md tm al ln (mf_tell k tm al ln (mf_place n))) (wr := []) (wF := cf_W 1 h0 h1 cA (mf_write k (mf_place n) ((mf_tell k tm al ln (mf_place n)) ||| v)) md tm al ln (mf_tell k tm al ln (mf_place n))) ⟨hx, hb, hml, hown, hts⟩ (m_write l D z h0 h1 cA k md tm al ln (mf_tell k tm al ln (mf_place n)) H.size (mf_place n) ((mf_tell k tm al ln (mf_place n)) ||| v) hin1) (cwV 2 hts gX1_access_X1_write rfl rfl rfl (by decide +kernel) ⟨Nat.le_of_ble_eq_true rfl, Nat.le_of_ble_eq_true rfl⟩) hP hD hK hZ hS hA hP [0, 1] [] rfl rfl rfl rfl (by decide) (ci := 1) (q0 := 0) rfl rfl rfl rfl hl.1 rfl (Nat.le_of_ble_eq_true rfl) dX1_access_117 ⟨Nat.zero_le _, Nat.zero_le _⟩ (fun H locs hP hD hS => ?_)
                    have hP : va_P D vwCl (cf_W 1 h0 h1 cA (mf_write k (mf_place n) ((mf_tell k tm al ln (mf_place n)) ||| v)) md tm al ln (mf_tell k tm al ln (mf_place n))) H := hP
                    have hD : va_D A (cf_W 1 h0 h1 cA (mf_write k (mf_place n) ((mf_tell k tm al ln (mf_place n)) ||| v)) md tm al ln (mf_tell k tm al ln (mf_place n))) := hD
                    refine lv_iconst (v := 0) hx hb dX1_access_120 (by decide) ?_
                    exact cf_wrEnd hx hb hr hlocks hP hD hK hS (by simp only [mf_accR, mf_accO, mf_accK, mf_bit, mf_at, cf_wrt, if_neg c_1, if_pos c_2, if_neg c_3, if_pos c_10, if_pos c_11, if_pos c_15, if_neg c_16, if_neg c_17, if_pos c_18, if_neg cf_n10, if_pos cf_p00, ↓reduceIte]) (by simp only [mf_accR, mf_accO, mf_accK, mf_bit, mf_at, cf_wrt, if_neg c_1, if_pos c_2, if_neg c_3, if_pos c_10, if_pos c_11, if_pos c_15, if_neg c_16, if_neg c_17, if_pos c_18, if_neg cf_n10, if_pos cf_p00, ↓reduceIte]) dX1_access_121
                · skip
                  refine lv_iload_n hx hb dX1_access_91 rfl (lv_at hl 6 rfl) ?_
                  refine lv_goto (tgt := 117) hx hb dX1_access_92 (by decide) ?_
                  refine cf_wcallN (As := [.int (mf_place n), .int v]) (rest := []) (wc := cf_W 1 h0 h1 cA k md tm al ln (mf_tell k tm al ln (mf_place n))) (wr := []) (wF := cf_W 1 h0 h1 cA (mf_write k (mf_place n) v) md tm al ln (mf_tell k tm al ln (mf_place n))) ⟨hx, hb, hml, hown, hts⟩ (m_write l D z h0 h1 cA k md tm al ln (mf_tell k tm al ln (mf_place n)) H.size (mf_place n) v hin1) (cwV 2 hts gX1_access_X1_write rfl rfl rfl (by decide +kernel) ⟨Nat.le_of_ble_eq_true rfl, Nat.le_of_ble_eq_true rfl⟩) hP hD hK hZ hS hA hP [0, 1] [] rfl rfl rfl rfl (by decide) (ci := 1) (q0 := 0) rfl rfl rfl rfl hl.1 rfl (Nat.le_of_ble_eq_true rfl) dX1_access_117 ⟨Nat.zero_le _, Nat.zero_le _⟩ (fun H locs hP hD hS => ?_)
                  have hP : va_P D vwCl (cf_W 1 h0 h1 cA (mf_write k (mf_place n) v) md tm al ln (mf_tell k tm al ln (mf_place n))) H := hP
                  have hD : va_D A (cf_W 1 h0 h1 cA (mf_write k (mf_place n) v) md tm al ln (mf_tell k tm al ln (mf_place n))) := hD
                  refine lv_iconst (v := 0) hx hb dX1_access_120 (by decide) ?_
                  exact cf_wrEnd hx hb hr hlocks hP hD hK hS (by simp only [mf_accR, mf_accO, mf_accK, mf_bit, mf_at, cf_wrt, if_neg c_1, if_pos c_2, if_neg c_3, if_pos c_10, if_pos c_11, if_pos c_15, if_neg c_16, if_pos c_17, if_neg cf_n10, if_pos cf_p00, ↓reduceIte]) (by simp only [mf_accR, mf_accO, mf_accK, mf_bit, mf_at, cf_wrt, if_neg c_1, if_pos c_2, if_neg c_3, if_pos c_10, if_pos c_11, if_pos c_15, if_neg c_16, if_pos c_17, if_neg cf_n10, if_pos cf_p00, ↓reduceIte]) dX1_access_121
            · skip
              refine lv_iload hx hb dX1_access_57 (lv_at hl 1 rfl) ?_
              refine lv_bipush (v := 9) hx hb dX1_access_59 (by decide) ?_
              refine lv_iadd hx hb dX1_access_61 ?_
              refine lv_goto (tgt := 67) hx hb dX1_access_62 (by decide) ?_
              refine lv_istore (lv' := [(6, .int ((mf_place n) + 9)), (5, .int (mf_ref k md (mf_place n) 1)), (4, .int (mf_place n)), (0, .ref h0), (1, .int n), (2, .int kd), (3, .int v)]) hx hb dX1_access_67 hl (by decide) rfl (fun ls hl => ?_)
              have hin1 : vp_in (mf_place n) 29 := mf_in1 c_10
              have hin2 : vp_in ((mf_place n) + 9) 29 := mf_in2 hin1 c_15
              refine lv_aload_n hx hb dX1_access_69 rfl (lv_at hl 3 rfl) ?_
              refine lv_aload_n hx hb dX1_access_70 rfl (lv_at hl 3 rfl) ?_
              refine lv_iload hx hb dX1_access_71 (lv_at hl 0 rfl) ?_
              refine cf_callV (As := [.int ((mf_place n) + 9)]) (rest := [.ref h0]) ⟨hx, hb, hml, hown, hts⟩ (m_tells l D z h0 h1 cA k md tm al ln od ((mf_place n) + 9) hin2) (cwV 1 hts gX1_access_X1_tells rfl rfl rfl (by decide +kernel) ⟨Nat.le_of_ble_eq_true rfl, Nat.le_of_ble_eq_true rfl⟩) hP hK hZ hS (ci := 1) (q0 := 0) rfl rfl rfl rfl hl.1 rfl (Nat.le_of_ble_eq_true rfl) dX1_access_73 ⟨Nat.zero_le _, Nat.zero_le _⟩ ?_
              refine va_put (D := D) (ci := 1) (v := .int (mf_tell k tm al ln ((mf_place n) + 9))) (ty := .int) (C := RX1) (T := TX1) (N := 6) hx hb hts hin0 tyX1 tyX1_ok nmX1 hown hK hP hD hS 0 rfl rfl 5 (by decide) (hts (.fieldLink RX1 33 "ControlFileModel" "old" "I") (by decide +kernel)) (fun _ h9 => h9) rfl (by decide +kernel) rfl rfl (Nat.le_of_ble_eq_true rfl) dX1_access_76 (fun H locs hP hD hS => ?_)
              have hP : va_P D vwCl (cf_W 1 h0 h1 cA k md tm al ln (mf_tell k tm al ln ((mf_place n) + 9))) H := hP
              have hD : va_D A (cf_W 1 h0 h1 cA k md tm al ln (mf_tell k tm al ln ((mf_place n) + 9))) := hD
              refine lv_iload_n hx hb dX1_access_79 rfl (lv_at hl 5 rfl) ?_
              refine lv_if_le (tgt := 120) hx hb dX1_access_80 (by decide) (fun c_19 => ?_) (fun c_19 => ?_)
              · skip
                exact absurd c_19 c_3
              · skip
                refine lv_aload_n hx hb dX1_access_83 rfl (lv_at hl 3 rfl) ?_
                refine lv_iload hx hb dX1_access_84 (lv_at hl 0 rfl) ?_
                refine lv_iload_n hx hb dX1_access_86 rfl (lv_at hl 5 rfl) ?_
                refine lv_iconst (v := 1) hx hb dX1_access_87 (by decide) ?_
                refine lv_icmp_ne (tgt := 95) hx hb dX1_access_88 (by decide) (fun c_20 => ?_) (fun c_20 => ?_)
                · skip
                  refine lv_iload_n hx hb dX1_access_95 rfl (lv_at hl 5 rfl) ?_
                  refine lv_iconst (v := 2) hx hb dX1_access_96 (by decide) ?_
                  refine lv_icmp_ne (tgt := 109) hx hb dX1_access_97 (by decide) (fun c_21 => ?_) (fun c_21 => ?_)
                  · skip
                    refine lv_aload_n hx hb dX1_access_109 rfl (lv_at hl 3 rfl) ?_
                    refine va_get (D := D) (ci := 1) (v := .int (mf_tell k tm al ln ((mf_place n) + 9))) (C := RX1) (T := TX1) (N := 6) hx hb hts hin0 hown hK hP 0 rfl rfl 5 (by decide) (hts (.fieldLink RX1 33 "ControlFileModel" "old" "I") (by decide +kernel)) (fun _ h9 => h9) rfl dX1_access_110 ?_
                    refine lv_iload_n hx hb dX1_access_113 rfl (lv_at hl 6 rfl) ?_
                    refine lv_iconst (v := -1) hx hb dX1_access_114 (by decide) ?_
                    refine lv_ixor hx hb dX1_access_115 ?_
                    refine lv_iand hx hb dX1_access_116 ?_
                    refine cf_wcallN (As := [.int ((mf_place n) + 9), .int ((mf_tell k tm al ln ((mf_place n) + 9)) &&& (v ^^^ (-1)))]) (rest := []) (wc := cf_W 1 h0 h1 cA k md tm al ln (mf_tell k tm al ln ((mf_place n) + 9))) (wr := []) (wF := cf_W 1 h0 h1 cA (mf_write k ((mf_place n) + 9) ((mf_tell k tm al ln ((mf_place n) + 9)) &&& (v ^^^ (-1)))) md tm al ln (mf_tell k tm al ln ((mf_place n) + 9))) ⟨hx, hb, hml, hown, hts⟩ (m_write l D z h0 h1 cA k md tm al ln (mf_tell k tm al ln ((mf_place n) + 9)) H.size ((mf_place n) + 9) ((mf_tell k tm al ln ((mf_place n) + 9)) &&& (v ^^^ (-1))) hin2) (cwV 2 hts gX1_access_X1_write rfl rfl rfl (by decide +kernel) ⟨Nat.le_of_ble_eq_true rfl, Nat.le_of_ble_eq_true rfl⟩) hP hD hK hZ hS hA hP [0, 1] [] rfl rfl rfl rfl (by decide) (ci := 1) (q0 := 0) rfl rfl rfl rfl hl.1 rfl (Nat.le_of_ble_eq_true rfl) dX1_access_117 ⟨Nat.zero_le _, Nat.zero_le _⟩ (fun H locs hP hD hS => ?_)
                    have hP : va_P D vwCl (cf_W 1 h0 h1 cA (mf_write k ((mf_place n) + 9) ((mf_tell k tm al ln ((mf_place n) + 9)) &&& (v ^^^ (-1)))) md tm al ln (mf_tell k tm al ln ((mf_place n) + 9))) H := hP
                    have hD : va_D A (cf_W 1 h0 h1 cA (mf_write k ((mf_place n) + 9) ((mf_tell k tm al ln ((mf_place n) + 9)) &&& (v ^^^ (-1)))) md tm al ln (mf_tell k tm al ln ((mf_place n) + 9))) := hD
                    refine lv_iconst (v := 0) hx hb dX1_access_120 (by decide) ?_
                    exact cf_wrEnd hx hb hr hlocks hP hD hK hS (by simp only [mf_accR, mf_accO, mf_accK, mf_bit, mf_at, cf_wrt, if_neg c_1, if_pos c_2, if_neg c_3, if_pos c_10, if_pos c_11, if_neg c_15, if_neg c_19, if_neg c_20, if_neg c_21, if_neg cf_n10, if_pos cf_p00, ↓reduceIte]) (by simp only [mf_accR, mf_accO, mf_accK, mf_bit, mf_at, cf_wrt, if_neg c_1, if_pos c_2, if_neg c_3, if_pos c_10, if_pos c_11, if_neg c_15, if_neg c_19, if_neg c_20, if_neg c_21, if_neg cf_n10, if_pos cf_p00, ↓reduceIte]) dX1_access_121
                  · skip
                    refine lv_aload_n hx hb dX1_access_100 rfl (lv_at hl 3 rfl) ?_
                    refine va_get (D := D) (ci := 1) (v := .int (mf_tell k tm al ln ((mf_place n) + 9))) (C := RX1) (T := TX1) (N := 6) hx hb hts hin0 hown hK hP 0 rfl rfl 5 (by decide) (hts (.fieldLink RX1 33 "ControlFileModel" "old" "I") (by decide +kernel)) (fun _ h9 => h9) rfl dX1_access_101 ?_
                    refine lv_iload_n hx hb dX1_access_104 rfl (lv_at hl 6 rfl) ?_
                    refine lv_ior hx hb dX1_access_105 ?_
                    refine lv_goto (tgt := 117) hx hb dX1_access_106 (by decide) ?_
                    refine cf_wcallN (As := [.int ((mf_place n) + 9), .int ((mf_tell k tm al ln ((mf_place n) + 9)) ||| v)]) (rest := []) (wc := cf_W 1 h0 h1 cA k md tm al ln (mf_tell k tm al ln ((mf_place n) + 9))) (wr := []) (wF := cf_W 1 h0 h1 cA (mf_write k ((mf_place n) + 9) ((mf_tell k tm al ln ((mf_place n) + 9)) ||| v)) md tm al ln (mf_tell k tm al ln ((mf_place n) + 9))) ⟨hx, hb, hml, hown, hts⟩ (m_write l D z h0 h1 cA k md tm al ln (mf_tell k tm al ln ((mf_place n) + 9)) H.size ((mf_place n) + 9) ((mf_tell k tm al ln ((mf_place n) + 9)) ||| v) hin2) (cwV 2 hts gX1_access_X1_write rfl rfl rfl (by decide +kernel) ⟨Nat.le_of_ble_eq_true rfl, Nat.le_of_ble_eq_true rfl⟩) hP hD hK hZ hS hA hP [0, 1] [] rfl rfl rfl rfl (by decide) (ci := 1) (q0 := 0) rfl rfl rfl rfl hl.1 rfl (Nat.le_of_ble_eq_true rfl) dX1_access_117 ⟨Nat.zero_le _, Nat.zero_le _⟩ (fun H locs hP hD hS => ?_)
                    have hP : va_P D vwCl (cf_W 1 h0 h1 cA (mf_write k ((mf_place n) + 9) ((mf_tell k tm al ln ((mf_place n) + 9)) ||| v)) md tm al ln (mf_tell k tm al ln ((mf_place n) + 9))) H := hP
                    have hD : va_D A (cf_W 1 h0 h1 cA (mf_write k ((mf_place n) + 9) ((mf_tell k tm al ln ((mf_place n) + 9)) ||| v)) md tm al ln (mf_tell k tm al ln ((mf_place n) + 9))) := hD
                    refine lv_iconst (v := 0) hx hb dX1_access_120 (by decide) ?_
                    exact cf_wrEnd hx hb hr hlocks hP hD hK hS (by simp only [mf_accR, mf_accO, mf_accK, mf_bit, mf_at, cf_wrt, if_neg c_1, if_pos c_2, if_neg c_3, if_pos c_10, if_pos c_11, if_neg c_15, if_neg c_19, if_neg c_20, if_pos c_21, if_neg cf_n10, if_pos cf_p00, ↓reduceIte]) (by simp only [mf_accR, mf_accO, mf_accK, mf_bit, mf_at, cf_wrt, if_neg c_1, if_pos c_2, if_neg c_3, if_pos c_10, if_pos c_11, if_neg c_15, if_neg c_19, if_neg c_20, if_pos c_21, if_neg cf_n10, if_pos cf_p00, ↓reduceIte]) dX1_access_121
                · skip
                  refine lv_iload_n hx hb dX1_access_91 rfl (lv_at hl 6 rfl) ?_
                  refine lv_goto (tgt := 117) hx hb dX1_access_92 (by decide) ?_
                  refine cf_wcallN (As := [.int ((mf_place n) + 9), .int v]) (rest := []) (wc := cf_W 1 h0 h1 cA k md tm al ln (mf_tell k tm al ln ((mf_place n) + 9))) (wr := []) (wF := cf_W 1 h0 h1 cA (mf_write k ((mf_place n) + 9) v) md tm al ln (mf_tell k tm al ln ((mf_place n) + 9))) ⟨hx, hb, hml, hown, hts⟩ (m_write l D z h0 h1 cA k md tm al ln (mf_tell k tm al ln ((mf_place n) + 9)) H.size ((mf_place n) + 9) v hin2) (cwV 2 hts gX1_access_X1_write rfl rfl rfl (by decide +kernel) ⟨Nat.le_of_ble_eq_true rfl, Nat.le_of_ble_eq_true rfl⟩) hP hD hK hZ hS hA hP [0, 1] [] rfl rfl rfl rfl (by decide) (ci := 1) (q0 := 0) rfl rfl rfl rfl hl.1 rfl (Nat.le_of_ble_eq_true rfl) dX1_access_117 ⟨Nat.zero_le _, Nat.zero_le _⟩ (fun H locs hP hD hS => ?_)
                  have hP : va_P D vwCl (cf_W 1 h0 h1 cA (mf_write k ((mf_place n) + 9) v) md tm al ln (mf_tell k tm al ln ((mf_place n) + 9))) H := hP
                  have hD : va_D A (cf_W 1 h0 h1 cA (mf_write k ((mf_place n) + 9) v) md tm al ln (mf_tell k tm al ln ((mf_place n) + 9))) := hD
                  refine lv_iconst (v := 0) hx hb dX1_access_120 (by decide) ?_
                  exact cf_wrEnd hx hb hr hlocks hP hD hK hS (by simp only [mf_accR, mf_accO, mf_accK, mf_bit, mf_at, cf_wrt, if_neg c_1, if_pos c_2, if_neg c_3, if_pos c_10, if_pos c_11, if_neg c_15, if_neg c_19, if_pos c_20, if_neg cf_n10, if_pos cf_p00, ↓reduceIte]) (by simp only [mf_accR, mf_accO, mf_accK, mf_bit, mf_at, cf_wrt, if_neg c_1, if_pos c_2, if_neg c_3, if_pos c_10, if_pos c_11, if_neg c_15, if_neg c_19, if_pos c_20, if_neg cf_n10, if_pos cf_p00, ↓reduceIte]) dX1_access_121
        · skip
          refine lv_iload hx hb dX1_access_39 (lv_at hl 0 rfl) ?_
          exact cf_wrEnd hx hb hr hlocks hP hD hK hS (by simp only [mf_accR, mf_accO, mf_accK, mf_bit, mf_at, cf_wrt, if_neg c_1, if_pos c_2, if_neg c_3, if_neg c_10, if_neg cf_n10, if_pos cf_p00, ↓reduceIte]) (by simp only [mf_accR, mf_accO, mf_accK, mf_bit, mf_at, cf_wrt, if_neg c_1, if_pos c_2, if_neg c_3, if_neg c_10, if_neg cf_n10, if_pos cf_p00, ↓reduceIte]) dX1_access_41
    · skip
      refine lv_iconst (v := -1) hx hb dX1_access_9 (by decide) ?_
      exact cf_wrEnd hx hb hr hlocks hP hD hK hS (by simp only [mf_accR, mf_accO, mf_accK, mf_bit, mf_at, cf_wrt, if_neg c_1, if_neg c_2, if_neg cf_n10, if_pos cf_p00, ↓reduceIte]) (by simp only [mf_accR, mf_accO, mf_accK, mf_bit, mf_at, cf_wrt, if_neg c_1, if_neg c_2, if_neg cf_n10, if_pos cf_p00, ↓reduceIte]) dX1_access_10
set_option maxHeartbeats 4000000 in
set_option maxRecDepth 100000 in
theorem m_begin (l : Launch) (D : va_G) (z : Nat → Nat) (h0 h1 : Nat) (cA : ClassId) (k : Nat → Int32) (md : Int32) (tm al : Int64) (ln od : Int32) (sz : Nat) : Met l yX1_begin wsX1_begin ({ frames := 0, cells := 0, slots := 0, locals := 0 } : Room) (cf_wr [.ref h0] D (cf_W 1 h0 h1 cA k md tm al ln od) [(cA, .int)] sz z) (va_Qv (fun u => u = cf_W 1 h0 h1 cA (cf_fill k 0 29) 1 0 9223372036854775807 0 0) (cf_B D [(cA, .int)] (va_A (cf_W 1 h0 h1 cA k md tm al ln od) sz)) (va_A (cf_W 1 h0 h1 cA k md tm al ln od) sz)) 0 0 (va_A (cf_W 1 h0 h1 cA k md tm al ln od) sz) := by
  refine Met.ofW (cc := cX1_begin) (maxL := 2) (ret := none) (by decide) rfl ?_
  intro p e s m args below meth c s₁ B hml hv
  obtain ⟨rfl, hsz, hP, hK, hD0, hZ⟩ := hv
  have hx := B.exec
  have hb := B.bytes
  have hr := B.returns
  have hts := atoms_spec (ws := wsX1_begin) B.pre
  have hown : s.vm.findClass RX1 = some m.cls := findClass_of_methodNamed B.named
  have hlocks := B.notSynchronized
  have hin0 : ∀ w ∈ wsX10, w ∈ wsX1_begin := by decide +kernel
  subst hsz
  have hD := hD0.self (sz := s.heap.size)
  generalize hAe : va_A (cf_W 1 h0 h1 cA k md tm al ln od) s.heap.size = A at hD hZ ⊢
  have hA : ∀ q : Nat, s.heap.size ≤ q → A q := fun q h => by rw [← hAe]; exact Or.inr h
  have hS : va_S A s.heap s.heap [] := va_S.rf
  have hl := lv_entry ([.ref h0]) (n := 2) (Nat.le_of_ble_eq_true rfl)
  rw [lg_entry_eq]
  generalize (lg_sl ([.ref h0]) ++ List.replicate (2 - (lg_sl ([.ref h0])).length) Slot.unset).toArray = ls at hl ⊢
  have hl : lv_has ls 2 [(0, .ref h0)] := hl
  refine lv_iconst (v := 0) hx hb dX1_begin_0 (by decide) ?_
  refine lv_istore_n (lv' := [(1, .int 0), (0, .ref h0)]) hx hb dX1_begin_1 rfl hl (by decide) rfl (fun ls hl => ?_)
  refine cf_indH (G := fun H locs g => W p l e _ s m _ below meth c H locs 0 0 _ g) 29 (fun i H locs ls => lv_has ls 2 [(1, .int (nI i)), (0, .ref h0)] ∧ va_P D vwCl (cf_W 1 h0 h1 cA (cf_fill k 0 i) md tm al ln od) H ∧ va_D A (cf_W 1 h0 h1 cA (cf_fill k 0 i) md tm al ln od) ∧ va_S A s.heap H locs) ?_ ?_ 29 0 s.heap [] ls rfl (by omega) ⟨hl, by rw [cf_fill_0]; exact hP, by rw [cf_fill_0]; exact hD, hS⟩
  · intro i H locs ls hi hI ih
    obtain ⟨hl, hP, hD, hS⟩ := hI
    refine lv_iload_n hx hb dX1_begin_2 rfl (lv_at hl 0 rfl) ?_
    refine lv_bipush (v := 29) hx hb dX1_begin_3 (by decide) ?_
    refine lv_icmp_ge (tgt := 21) hx hb dX1_begin_5 (by decide) (fun c_1 => ?_) (fun c_1 => ?_)
    · skip
      exact absurd c_1 (show ¬ (29 : Int32) ≤ nI i from nI_ge hi (by decide))
    · skip
      refine lv_aload_n hx hb dX1_begin_8 rfl (lv_at hl 1 rfl) ?_
      refine va_get (D := D) (ci := 1) (v := .ref h1) (C := RX1) (T := TX1) (N := 6) hx hb hts hin0 hown hK hP 0 rfl rfl 0 (by decide) (hts (.fieldLink RX1 7 "ControlFileModel" "kept" "[I") (by decide +kernel)) (fun _ h9 => h9) rfl dX1_begin_9 ?_
      refine lv_iload_n hx hb dX1_begin_12 rfl (lv_at hl 0 rfl) ?_
      refine lv_iconst (v := 0) hx hb dX1_begin_13 (by decide) ?_
      refine va_iast hx hb hK hP hD hS 1 0 rfl rfl (vp_in_nI hi (by omega)) dX1_begin_14 (fun H locs hP hD hS => ?_)
      have hP : va_P D vwCl (cf_W 1 h0 h1 cA (upd (cf_fill k 0 i) (nI i).toNatClampNeg 0) md tm al ln od) H := hP
      have hD : va_D A (cf_W 1 h0 h1 cA (upd (cf_fill k 0 i) (nI i).toNatClampNeg 0) md tm al ln od) := hD
      refine lv_iinc (v := nI (i + 1)) (lv' := [(1, .int (nI (i + 1))), (0, .ref h0)]) hx hb dX1_begin_15 hl (k := 0) rfl (nI_1 i) (by decide) rfl (fun ls hl => ?_)
      refine lv_goto (tgt := 2) hx hb dX1_begin_18 (by decide) ?_
      rw [show upd (cf_fill k 0 i) (nI i).toNatClampNeg 0 = cf_fill k 0 (i + 1) by rw [nI_clamp (by omega)]; exact cf_fill_s k 0 i] at hP hD
      exact ih H locs ls ⟨lv_sub hl [0, 1] rfl, hP, hD, hS⟩
  · intro H locs ls hI
    obtain ⟨hl, hP, hD, hS⟩ := hI
    refine lv_iload_n hx hb dX1_begin_2 rfl (lv_at hl 0 rfl) ?_
    refine lv_bipush (v := 29) hx hb dX1_begin_3 (by decide) ?_
    refine lv_icmp_ge (tgt := 21) hx hb dX1_begin_5 (by decide) (fun c_2 => ?_) (fun c_2 => ?_)
    · skip
      refine lv_aload_n hx hb dX1_begin_21 rfl (lv_at hl 1 rfl) ?_
      refine lv_iconst (v := 1) hx hb dX1_begin_22 (by decide) ?_
      refine va_put (D := D) (ci := 1) (v := .int 1) (ty := .int) (C := RX1) (T := TX1) (N := 6) hx hb hts hin0 tyX1 tyX1_ok nmX1 hown hK hP hD hS 0 rfl rfl 1 (by decide) (hts (.fieldLink RX1 16 "ControlFileModel" "mode" "I") (by decide +kernel)) (fun _ h9 => h9) rfl (by decide +kernel) rfl rfl (Nat.le_of_ble_eq_true rfl) dX1_begin_23 (fun H locs hP hD hS => ?_)
      have hP : va_P D vwCl (cf_W 1 h0 h1 cA (cf_fill k 0 29) 1 tm al ln od) H := hP
      have hD : va_D A (cf_W 1 h0 h1 cA (cf_fill k 0 29) 1 tm al ln od) := hD
      refine lv_aload_n hx hb dX1_begin_26 rfl (lv_at hl 1 rfl) ?_
      refine lv_lconst (v := 0) hx hb dX1_begin_27 (by decide) ?_
      refine va_put (D := D) (ci := 1) (v := .long 0) (ty := .long) (C := RX1) (T := TX1) (N := 6) hx hb hts hin0 tyX1 tyX1_ok nmX1 hown hK hP hD hS 0 rfl rfl 2 (by decide) (hts (.fieldLink RX1 20 "ControlFileModel" "time" "J") (by decide +kernel)) (fun _ h9 => h9) rfl (by decide +kernel) rfl rfl (Nat.le_of_ble_eq_true rfl) dX1_begin_28 (fun H locs hP hD hS => ?_)
      have hP : va_P D vwCl (cf_W 1 h0 h1 cA (cf_fill k 0 29) 1 0 al ln od) H := hP
      have hD : va_D A (cf_W 1 h0 h1 cA (cf_fill k 0 29) 1 0 al ln od) := hD
      refine lv_aload_n hx hb dX1_begin_31 rfl (lv_at hl 1 rfl) ?_
      refine lv_ldc2 (own := RX1) (v := 9223372036854775807) hx hb hown (hts (.constantLong RX1 24 9223372036854775807) (by decide +kernel)) dX1_begin_32 ?_
      refine va_put (D := D) (ci := 1) (v := .long 9223372036854775807) (ty := .long) (C := RX1) (T := TX1) (N := 6) hx hb hts hin0 tyX1 tyX1_ok nmX1 hown hK hP hD hS 0 rfl rfl 3 (by decide) (hts (.fieldLink RX1 26 "ControlFileModel" "alarm" "J") (by decide +kernel)) (fun _ h9 => h9) rfl (by decide +kernel) rfl rfl (Nat.le_of_ble_eq_true rfl) dX1_begin_35 (fun H locs hP hD hS => ?_)
      have hP : va_P D vwCl (cf_W 1 h0 h1 cA (cf_fill k 0 29) 1 0 9223372036854775807 ln od) H := hP
      have hD : va_D A (cf_W 1 h0 h1 cA (cf_fill k 0 29) 1 0 9223372036854775807 ln od) := hD
      refine lv_aload_n hx hb dX1_begin_38 rfl (lv_at hl 1 rfl) ?_
      refine lv_iconst (v := 0) hx hb dX1_begin_39 (by decide) ?_
      refine va_put (D := D) (ci := 1) (v := .int 0) (ty := .boolean) (C := RX1) (T := TX1) (N := 6) hx hb hts hin0 tyX1 tyX1_ok nmX1 hown hK hP hD hS 0 rfl rfl 4 (by decide) (hts (.fieldLink RX1 29 "ControlFileModel" "line" "Z") (by decide +kernel)) (fun _ h9 => h9) rfl (by decide +kernel) rfl rfl (Nat.le_of_ble_eq_true rfl) dX1_begin_40 (fun H locs hP hD hS => ?_)
      have hP : va_P D vwCl (cf_W 1 h0 h1 cA (cf_fill k 0 29) 1 0 9223372036854775807 0 od) H := hP
      have hD : va_D A (cf_W 1 h0 h1 cA (cf_fill k 0 29) 1 0 9223372036854775807 0 od) := hD
      refine lv_aload_n hx hb dX1_begin_43 rfl (lv_at hl 1 rfl) ?_
      refine lv_iconst (v := 0) hx hb dX1_begin_44 (by decide) ?_
      refine va_put (D := D) (ci := 1) (v := .int 0) (ty := .int) (C := RX1) (T := TX1) (N := 6) hx hb hts hin0 tyX1 tyX1_ok nmX1 hown hK hP hD hS 0 rfl rfl 5 (by decide) (hts (.fieldLink RX1 33 "ControlFileModel" "old" "I") (by decide +kernel)) (fun _ h9 => h9) rfl (by decide +kernel) rfl rfl (Nat.le_of_ble_eq_true rfl) dX1_begin_45 (fun H locs hP hD hS => ?_)
      have hP : va_P D vwCl (cf_W 1 h0 h1 cA (cf_fill k 0 29) 1 0 9223372036854775807 0 0) H := hP
      have hD : va_D A (cf_W 1 h0 h1 cA (cf_fill k 0 29) 1 0 9223372036854775807 0 0) := hD
      exact cf_wrEndN hx hb hr hlocks hP hD hK hS (rfl) dX1_begin_48
    · skip
      exact absurd (show (29 : Int32) ≤ nI 29 by decide) c_2
