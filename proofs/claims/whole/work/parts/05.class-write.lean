set_option maxHeartbeats 4000000 in
set_option maxRecDepth 100000 in
theorem c_mode (l : Launch) (D : va_G) (z : Nat → Nat) (h0 h1 : Nat) (cA : ClassId) (k : Nat → Int32) (md : Int32) (tm al : Int64) (ln od : Int32) (sz : Nat) (x : Int32) : Met l yX0_mode wsX0_mode ({ frames := 0, cells := 0, slots := 0, locals := 0 } : Room) (cf_wr [.ref h0, .int x] D (cf_W 0 h0 h1 cA k md tm al ln od) [(cA, .int)] sz z) (va_Qi (fun r u => r = cf_mdR md x ∧ u = cf_W 0 h0 h1 cA k (cf_mdM md x) tm al ln od) (cf_B D [(cA, .int)] (va_A (cf_W 0 h0 h1 cA k md tm al ln od) sz)) (va_A (cf_W 0 h0 h1 cA k md tm al ln od) sz)) 0 0 (va_A (cf_W 0 h0 h1 cA k md tm al ln od) sz) := by
  refine Met.ofW (cc := cX0_mode) (maxL := 3) (ret := (some .int)) (by decide) rfl ?_
  intro p e s m args below meth c s₁ B hml hv
  obtain ⟨rfl, hsz, hP, hK, hD0, hZ⟩ := hv
  have hx := B.exec
  have hb := B.bytes
  have hr := B.returns
  have hts := atoms_spec (ws := wsX0_mode) B.pre
  have hown : s.vm.findClass RX0 = some m.cls := findClass_of_methodNamed B.named
  have hlocks := B.notSynchronized
  have hin0 : ∀ w ∈ wsX00, w ∈ wsX0_mode := by decide +kernel
  subst hsz
  have hD := hD0.self (sz := s.heap.size)
  generalize hAe : va_A (cf_W 0 h0 h1 cA k md tm al ln od) s.heap.size = A at hD hZ ⊢
  have hA : ∀ q : Nat, s.heap.size ≤ q → A q := fun q h => by rw [← hAe]; exact Or.inr h
  have hS : va_S A s.heap s.heap [] := va_S.rf
  have hl := lv_entry ([.ref h0, .int x]) (n := 3) (Nat.le_of_ble_eq_true rfl)
  rw [lg_entry_eq]
  generalize (lg_sl ([.ref h0, .int x]) ++ List.replicate (3 - (lg_sl ([.ref h0, .int x])).length) Slot.unset).toArray = ls at hl ⊢
  have hl : lv_has ls 3 [(0, .ref h0), (1, .int x)] := hl
  refine lv_iload_n hx hb dX0_mode_0 rfl (lv_at hl 1 rfl) ?_
  refine lv_if_lt (tgt := 9) hx hb dX0_mode_1 (by decide) (fun c_1 => ?_) (fun c_1 => ?_)
  · skip
    refine lv_iconst (v := -1) hx hb dX0_mode_9 (by decide) ?_
    exact cf_wrEnd hx hb hr hlocks hP hD hK hS (by simp only [cf_mdR, cf_mdM, if_pos c_1, if_neg cf_n10, if_pos cf_p00, ↓reduceIte]) (by simp only [cf_mdR, cf_mdM, if_pos c_1, if_neg cf_n10, if_pos cf_p00, ↓reduceIte]) dX0_mode_10
  · skip
    refine lv_iload_n hx hb dX0_mode_4 rfl (lv_at hl 1 rfl) ?_
    refine lv_iconst (v := 3) hx hb dX0_mode_5 (by decide) ?_
    refine lv_icmp_le (tgt := 11) hx hb dX0_mode_6 (by decide) (fun c_2 => ?_) (fun c_2 => ?_)
    · skip
      refine lv_aload_n hx hb dX0_mode_11 rfl (lv_at hl 0 rfl) ?_
      refine va_get (D := D) (ci := 0) (v := .int md) (C := RX0) (T := TX0) (N := 6) hx hb hts hin0 hown hK hP 0 rfl rfl 1 (by decide) (hts (.fieldLink RX0 16 "ControlFile" "modeNow" "I") (by decide +kernel)) (fun _ h9 => h9) rfl dX0_mode_12 ?_
      refine lv_istore_n (lv' := [(2, .int md), (0, .ref h0), (1, .int x)]) hx hb dX0_mode_15 rfl hl (by decide) rfl (fun ls hl => ?_)
      refine lv_aload_n hx hb dX0_mode_16 rfl (lv_at hl 1 rfl) ?_
      refine lv_iload_n hx hb dX0_mode_17 rfl (lv_at hl 2 rfl) ?_
      refine va_put (D := D) (ci := 0) (v := .int x) (ty := .int) (C := RX0) (T := TX0) (N := 6) hx hb hts hin0 tyX0 tyX0_ok nmX0 hown hK hP hD hS 0 rfl rfl 1 (by decide) (hts (.fieldLink RX0 16 "ControlFile" "modeNow" "I") (by decide +kernel)) (fun _ h9 => h9) rfl (by decide +kernel) rfl rfl (Nat.le_of_ble_eq_true rfl) dX0_mode_18 (fun H locs hP hD hS => ?_)
      have hP : va_P D vwCl (cf_W 0 h0 h1 cA k x tm al ln od) H := hP
      have hD : va_D A (cf_W 0 h0 h1 cA k x tm al ln od) := hD
      refine lv_iload_n hx hb dX0_mode_21 rfl (lv_at hl 0 rfl) ?_
      exact cf_wrEnd hx hb hr hlocks hP hD hK hS (by simp only [cf_mdR, cf_mdM, if_neg c_1, if_pos c_2, if_neg cf_n10, if_pos cf_p00, ↓reduceIte]) (by simp only [cf_mdR, cf_mdM, if_neg c_1, if_pos c_2, if_neg cf_n10, if_pos cf_p00, ↓reduceIte]) dX0_mode_22
    · skip
      refine lv_iconst (v := -1) hx hb dX0_mode_9 (by decide) ?_
      exact cf_wrEnd hx hb hr hlocks hP hD hK hS (by simp only [cf_mdR, cf_mdM, if_neg c_1, if_neg c_2, if_neg cf_n10, if_pos cf_p00, ↓reduceIte]) (by simp only [cf_mdR, cf_mdM, if_neg c_1, if_neg c_2, if_neg cf_n10, if_pos cf_p00, ↓reduceIte]) dX0_mode_10
set_option maxHeartbeats 4000000 in
set_option maxRecDepth 100000 in
theorem c_time (l : Launch) (D : va_G) (z : Nat → Nat) (h0 h1 : Nat) (cA : ClassId) (k : Nat → Int32) (md : Int32) (tm al : Int64) (ln od : Int32) (sz : Nat) (t : Int64) : Met l yX0_time wsX0_time ({ frames := 0, cells := 0, slots := 0, locals := 0 } : Room) (cf_wr [.ref h0, .long t] D (cf_W 0 h0 h1 cA k md tm al ln od) [(cA, .int)] sz z) (va_Ql (fun r u => r = cf_tmR tm t ∧ u = cf_W 0 h0 h1 cA k md (cf_tmM tm t) al ln od) (cf_B D [(cA, .int)] (va_A (cf_W 0 h0 h1 cA k md tm al ln od) sz)) (va_A (cf_W 0 h0 h1 cA k md tm al ln od) sz)) 0 0 (va_A (cf_W 0 h0 h1 cA k md tm al ln od) sz) := by
  refine Met.ofW (cc := cX0_time) (maxL := 5) (ret := (some .long)) (by decide) rfl ?_
  intro p e s m args below meth c s₁ B hml hv
  obtain ⟨rfl, hsz, hP, hK, hD0, hZ⟩ := hv
  have hx := B.exec
  have hb := B.bytes
  have hr := B.returns
  have hts := atoms_spec (ws := wsX0_time) B.pre
  have hown : s.vm.findClass RX0 = some m.cls := findClass_of_methodNamed B.named
  have hlocks := B.notSynchronized
  have hin0 : ∀ w ∈ wsX00, w ∈ wsX0_time := by decide +kernel
  subst hsz
  have hD := hD0.self (sz := s.heap.size)
  generalize hAe : va_A (cf_W 0 h0 h1 cA k md tm al ln od) s.heap.size = A at hD hZ ⊢
  have hA : ∀ q : Nat, s.heap.size ≤ q → A q := fun q h => by rw [← hAe]; exact Or.inr h
  have hS : va_S A s.heap s.heap [] := va_S.rf
  have hl := lv_entry ([.ref h0, .long t]) (n := 5) (Nat.le_of_ble_eq_true rfl)
  rw [lg_entry_eq]
  generalize (lg_sl ([.ref h0, .long t]) ++ List.replicate (5 - (lg_sl ([.ref h0, .long t])).length) Slot.unset).toArray = ls at hl ⊢
  have hl : lv_has ls 5 [(0, .ref h0), (1, .long t)] := hl
  refine lv_lload_n hx hb dX0_time_0 rfl (lv_at hl 1 rfl) ?_
  refine lv_lconst (v := 0) hx hb dX0_time_1 (by decide) ?_
  refine W.lcmp hx hb dX0_time_2 ?_
  refine lv_if_ge (tgt := 10) hx hb dX0_time_3 (by decide) (fun c_1 => ?_) (fun c_1 => ?_)
  · skip
    refine lv_aload_n hx hb dX0_time_10 rfl (lv_at hl 0 rfl) ?_
    refine va_get (D := D) (ci := 0) (v := .long tm) (C := RX0) (T := TX0) (N := 6) hx hb hts hin0 hown hK hP 0 rfl rfl 2 (by decide) (hts (.fieldLink RX0 22 "ControlFile" "timeNow" "J") (by decide +kernel)) (fun _ h9 => h9) rfl dX0_time_11 ?_
    refine lv_lstore_n (lv' := [(3, .long tm), (0, .ref h0), (1, .long t)]) hx hb dX0_time_14 rfl hl (by decide) rfl (fun ls hl => ?_)
    refine lv_aload_n hx hb dX0_time_15 rfl (lv_at hl 1 rfl) ?_
    refine lv_lload_n hx hb dX0_time_16 rfl (lv_at hl 2 rfl) ?_
    refine va_put (D := D) (ci := 0) (v := .long t) (ty := .long) (C := RX0) (T := TX0) (N := 6) hx hb hts hin0 tyX0 tyX0_ok nmX0 hown hK hP hD hS 0 rfl rfl 2 (by decide) (hts (.fieldLink RX0 22 "ControlFile" "timeNow" "J") (by decide +kernel)) (fun _ h9 => h9) rfl (by decide +kernel) rfl rfl (Nat.le_of_ble_eq_true rfl) dX0_time_17 (fun H locs hP hD hS => ?_)
    have hP : va_P D vwCl (cf_W 0 h0 h1 cA k md t al ln od) H := hP
    have hD : va_D A (cf_W 0 h0 h1 cA k md t al ln od) := hD
    refine lv_lload_n hx hb dX0_time_20 rfl (lv_at hl 0 rfl) ?_
    exact cf_wrEndL hx hb hr hlocks hP hD hK hS (by simp only [cf_tmR, cf_tmM, if_pos c_1, if_neg cf_n10, if_pos cf_p00, ↓reduceIte]) (by simp only [cf_tmR, cf_tmM, if_pos c_1, if_neg cf_n10, if_pos cf_p00, ↓reduceIte]) dX0_time_21
  · skip
    refine lv_ldc2 (own := RX0) (v := -1) hx hb hown (hts (.constantLong RX0 20 (-1)) (by decide +kernel)) dX0_time_6 ?_
    exact cf_wrEndL hx hb hr hlocks hP hD hK hS (by simp only [cf_tmR, cf_tmM, if_neg c_1, if_neg cf_n10, if_pos cf_p00, ↓reduceIte]) (by simp only [cf_tmR, cf_tmM, if_neg c_1, if_neg cf_n10, if_pos cf_p00, ↓reduceIte]) dX0_time_9
set_option maxHeartbeats 4000000 in
set_option maxRecDepth 100000 in
theorem c_alarm (l : Launch) (D : va_G) (z : Nat → Nat) (h0 h1 : Nat) (cA : ClassId) (k : Nat → Int32) (md : Int32) (tm al : Int64) (ln od : Int32) (sz : Nat) (t : Int64) : Met l yX0_alarm wsX0_alarm ({ frames := 0, cells := 0, slots := 0, locals := 0 } : Room) (cf_wr [.ref h0, .long t] D (cf_W 0 h0 h1 cA k md tm al ln od) [(cA, .int)] sz z) (va_Ql (fun r u => r = al ∧ u = cf_W 0 h0 h1 cA k md tm (cf_alM t) ln od) (cf_B D [(cA, .int)] (va_A (cf_W 0 h0 h1 cA k md tm al ln od) sz)) (va_A (cf_W 0 h0 h1 cA k md tm al ln od) sz)) 0 0 (va_A (cf_W 0 h0 h1 cA k md tm al ln od) sz) := by
  refine Met.ofW (cc := cX0_alarm) (maxL := 5) (ret := (some .long)) (by decide) rfl ?_
  intro p e s m args below meth c s₁ B hml hv
  obtain ⟨rfl, hsz, hP, hK, hD0, hZ⟩ := hv
  have hx := B.exec
  have hb := B.bytes
  have hr := B.returns
  have hts := atoms_spec (ws := wsX0_alarm) B.pre
  have hown : s.vm.findClass RX0 = some m.cls := findClass_of_methodNamed B.named
  have hlocks := B.notSynchronized
  have hin0 : ∀ w ∈ wsX00, w ∈ wsX0_alarm := by decide +kernel
  subst hsz
  have hD := hD0.self (sz := s.heap.size)
  generalize hAe : va_A (cf_W 0 h0 h1 cA k md tm al ln od) s.heap.size = A at hD hZ ⊢
  have hA : ∀ q : Nat, s.heap.size ≤ q → A q := fun q h => by rw [← hAe]; exact Or.inr h
  have hS : va_S A s.heap s.heap [] := va_S.rf
  have hl := lv_entry ([.ref h0, .long t]) (n := 5) (Nat.le_of_ble_eq_true rfl)
  rw [lg_entry_eq]
  generalize (lg_sl ([.ref h0, .long t]) ++ List.replicate (5 - (lg_sl ([.ref h0, .long t])).length) Slot.unset).toArray = ls at hl ⊢
  have hl : lv_has ls 5 [(0, .ref h0), (1, .long t)] := hl
  refine lv_aload_n hx hb dX0_alarm_0 rfl (lv_at hl 0 rfl) ?_
  refine va_get (D := D) (ci := 0) (v := .long al) (C := RX0) (T := TX0) (N := 6) hx hb hts hin0 hown hK hP 0 rfl rfl 3 (by decide) (hts (.fieldLink RX0 26 "ControlFile" "alarmAt" "J") (by decide +kernel)) (fun _ h9 => h9) rfl dX0_alarm_1 ?_
  refine lv_lstore_n (lv' := [(3, .long al), (0, .ref h0), (1, .long t)]) hx hb dX0_alarm_4 rfl hl (by decide) rfl (fun ls hl => ?_)
  refine lv_aload_n hx hb dX0_alarm_5 rfl (lv_at hl 1 rfl) ?_
  refine lv_lload_n hx hb dX0_alarm_6 rfl (lv_at hl 2 rfl) ?_
  refine lv_lconst (v := 0) hx hb dX0_alarm_7 (by decide) ?_
  refine W.lcmp hx hb dX0_alarm_8 ?_
  refine lv_if_ge (tgt := 18) hx hb dX0_alarm_9 (by decide) (fun c_1 => ?_) (fun c_1 => ?_)
  · skip
    refine lv_lload_n hx hb dX0_alarm_18 rfl (lv_at hl 2 rfl) ?_
    refine va_put (D := D) (ci := 0) (v := .long t) (ty := .long) (C := RX0) (T := TX0) (N := 6) hx hb hts hin0 tyX0 tyX0_ok nmX0 hown hK hP hD hS 0 rfl rfl 3 (by decide) (hts (.fieldLink RX0 26 "ControlFile" "alarmAt" "J") (by decide +kernel)) (fun _ h9 => h9) rfl (by decide +kernel) rfl rfl (Nat.le_of_ble_eq_true rfl) dX0_alarm_19 (fun H locs hP hD hS => ?_)
    have hP : va_P D vwCl (cf_W 0 h0 h1 cA k md tm t ln od) H := hP
    have hD : va_D A (cf_W 0 h0 h1 cA k md tm t ln od) := hD
    refine lv_lload_n hx hb dX0_alarm_22 rfl (lv_at hl 0 rfl) ?_
    exact cf_wrEndL hx hb hr hlocks hP hD hK hS rfl (by simp only [cf_alM, if_pos c_1, if_neg cf_n10, if_pos cf_p00, ↓reduceIte]) dX0_alarm_23
  · skip
    refine lv_ldc2 (own := RX0) (v := 9223372036854775807) hx hb hown (hts (.constantLong RX0 29 9223372036854775807) (by decide +kernel)) dX0_alarm_12 ?_
    refine lv_goto (tgt := 19) hx hb dX0_alarm_15 (by decide) ?_
    refine va_put (D := D) (ci := 0) (v := .long 9223372036854775807) (ty := .long) (C := RX0) (T := TX0) (N := 6) hx hb hts hin0 tyX0 tyX0_ok nmX0 hown hK hP hD hS 0 rfl rfl 3 (by decide) (hts (.fieldLink RX0 26 "ControlFile" "alarmAt" "J") (by decide +kernel)) (fun _ h9 => h9) rfl (by decide +kernel) rfl rfl (Nat.le_of_ble_eq_true rfl) dX0_alarm_19 (fun H locs hP hD hS => ?_)
    have hP : va_P D vwCl (cf_W 0 h0 h1 cA k md tm 9223372036854775807 ln od) H := hP
    have hD : va_D A (cf_W 0 h0 h1 cA k md tm 9223372036854775807 ln od) := hD
    refine lv_lload_n hx hb dX0_alarm_22 rfl (lv_at hl 0 rfl) ?_
    exact cf_wrEndL hx hb hr hlocks hP hD hK hS rfl (by simp only [cf_alM, if_neg c_1, if_neg cf_n10, if_pos cf_p00, ↓reduceIte]) dX0_alarm_23
set_option maxHeartbeats 4000000 in
set_option maxRecDepth 100000 in
theorem c_line (l : Launch) (D : va_G) (z : Nat → Nat) (h0 h1 : Nat) (cA : ClassId) (k : Nat → Int32) (md : Int32) (tm al : Int64) (ln od : Int32) (sz : Nat) (on : Int32) (hln : ln = 0 ∨ ln = 1) (hon : on = 0 ∨ on = 1) : Met l yX0_line wsX0_line ({ frames := 0, cells := 0, slots := 0, locals := 0 } : Room) (cf_wr [.ref h0, .int on] D (cf_W 0 h0 h1 cA k md tm al ln od) [(cA, .int)] sz z) (va_Qi (fun r u => r = ln ∧ u = cf_W 0 h0 h1 cA k md tm al on od) (cf_B D [(cA, .int)] (va_A (cf_W 0 h0 h1 cA k md tm al ln od) sz)) (va_A (cf_W 0 h0 h1 cA k md tm al ln od) sz)) 0 0 (va_A (cf_W 0 h0 h1 cA k md tm al ln od) sz) := by
  refine Met.ofW (cc := cX0_line) (maxL := 3) (ret := (some .boolean)) (by decide) rfl ?_
  intro p e s m args below meth c s₁ B hml hv
  obtain ⟨rfl, hsz, hP, hK, hD0, hZ⟩ := hv
  have hx := B.exec
  have hb := B.bytes
  have hr := B.returns
  have hts := atoms_spec (ws := wsX0_line) B.pre
  have hown : s.vm.findClass RX0 = some m.cls := findClass_of_methodNamed B.named
  have hlocks := B.notSynchronized
  have hin0 : ∀ w ∈ wsX00, w ∈ wsX0_line := by decide +kernel
  subst hsz
  have hD := hD0.self (sz := s.heap.size)
  generalize hAe : va_A (cf_W 0 h0 h1 cA k md tm al ln od) s.heap.size = A at hD hZ ⊢
  have hA : ∀ q : Nat, s.heap.size ≤ q → A q := fun q h => by rw [← hAe]; exact Or.inr h
  have hS : va_S A s.heap s.heap [] := va_S.rf
  have hl := lv_entry ([.ref h0, .int on]) (n := 3) (Nat.le_of_ble_eq_true rfl)
  rw [lg_entry_eq]
  generalize (lg_sl ([.ref h0, .int on]) ++ List.replicate (3 - (lg_sl ([.ref h0, .int on])).length) Slot.unset).toArray = ls at hl ⊢
  have hl : lv_has ls 3 [(0, .ref h0), (1, .int on)] := hl
  refine lv_aload_n hx hb dX0_line_0 rfl (lv_at hl 0 rfl) ?_
  refine va_get (D := D) (ci := 0) (v := .int ln) (C := RX0) (T := TX0) (N := 6) hx hb hts hin0 hown hK hP 0 rfl rfl 4 (by decide) (hts (.fieldLink RX0 31 "ControlFile" "lineOn" "Z") (by decide +kernel)) (fun _ h9 => h9) rfl dX0_line_1 ?_
  refine lv_istore_n (lv' := [(2, .int ln), (0, .ref h0), (1, .int on)]) hx hb dX0_line_4 rfl hl (by decide) rfl (fun ls hl => ?_)
  refine lv_aload_n hx hb dX0_line_5 rfl (lv_at hl 1 rfl) ?_
  refine lv_iload_n hx hb dX0_line_6 rfl (lv_at hl 2 rfl) ?_
  refine va_put (D := D) (ci := 0) (v := .int on) (ty := .boolean) (C := RX0) (T := TX0) (N := 6) hx hb hts hin0 tyX0 tyX0_ok nmX0 hown hK hP hD hS 0 rfl rfl 4 (by decide) (hts (.fieldLink RX0 31 "ControlFile" "lineOn" "Z") (by decide +kernel)) (fun _ h9 => h9) rfl (by decide +kernel) (by rcases hon with rfl | rfl <;> rfl) (by rcases hon with rfl | rfl <;> rfl) (Nat.le_of_ble_eq_true rfl) dX0_line_7 (fun H locs hP hD hS => ?_)
  have hP : va_P D vwCl (cf_W 0 h0 h1 cA k md tm al on od) H := hP
  have hD : va_D A (cf_W 0 h0 h1 cA k md tm al on od) := hD
  refine lv_iload_n hx hb dX0_line_10 rfl (lv_at hl 0 rfl) ?_
  exact cf_wrEndZ hx hb hr hlocks (by rcases hln with rfl | rfl <;> rfl) hP hD hK hS (rfl) (rfl) dX0_line_11
set_option maxHeartbeats 4000000 in
set_option maxRecDepth 100000 in
theorem c_putBits (l : Launch) (D : va_G) (z : Nat → Nat) (h0 h1 : Nat) (cA : ClassId) (k : Nat → Int32) (md : Int32) (tm al : Int64) (ln od : Int32) (sz : Nat) (x : Int32) (v : Int32) (b : Int32) : Met l yX0_putBits wsX0_putBits ({ frames := 0, cells := 0, slots := 0, locals := 0 } : Room) (cf_wr [.ref h0, .int x, .int v, .int b] D (cf_W 0 h0 h1 cA k md tm al ln od) [(cA, .int)] sz z) (va_Qv (fun u => u = cf_W 0 h0 h1 cA (cf_putB k x v b) md tm al ln od) (cf_B D [(cA, .int)] (va_A (cf_W 0 h0 h1 cA k md tm al ln od) sz)) (va_A (cf_W 0 h0 h1 cA k md tm al ln od) sz)) 0 0 (va_A (cf_W 0 h0 h1 cA k md tm al ln od) sz) := by
  refine Met.ofW (cc := cX0_putBits) (maxL := 4) (ret := none) (by decide) rfl ?_
  intro p e s m args below meth c s₁ B hml hv
  obtain ⟨rfl, hsz, hP, hK, hD0, hZ⟩ := hv
  have hx := B.exec
  have hb := B.bytes
  have hr := B.returns
  have hts := atoms_spec (ws := wsX0_putBits) B.pre
  have hown : s.vm.findClass RX0 = some m.cls := findClass_of_methodNamed B.named
  have hlocks := B.notSynchronized
  have hin0 : ∀ w ∈ wsX00, w ∈ wsX0_putBits := by decide +kernel
  subst hsz
  have hD := hD0.self (sz := s.heap.size)
  generalize hAe : va_A (cf_W 0 h0 h1 cA k md tm al ln od) s.heap.size = A at hD hZ ⊢
  have hA : ∀ q : Nat, s.heap.size ≤ q → A q := fun q h => by rw [← hAe]; exact Or.inr h
  have hS : va_S A s.heap s.heap [] := va_S.rf
  have hl := lv_entry ([.ref h0, .int x, .int v, .int b]) (n := 4) (Nat.le_of_ble_eq_true rfl)
  rw [lg_entry_eq]
  generalize (lg_sl ([.ref h0, .int x, .int v, .int b]) ++ List.replicate (4 - (lg_sl ([.ref h0, .int x, .int v, .int b])).length) Slot.unset).toArray = ls at hl ⊢
  have hl : lv_has ls 4 [(0, .ref h0), (1, .int x), (2, .int v), (3, .int b)] := hl
  refine lv_iload_n hx hb dX0_putBits_0 rfl (lv_at hl 1 rfl) ?_
  refine lv_if_lt (tgt := 33) hx hb dX0_putBits_1 (by decide) (fun c_1 => ?_) (fun c_1 => ?_)
  · skip
    exact cf_wrEndN hx hb hr hlocks hP hD hK hS (by simp only [cf_putB, if_pos c_1, if_neg cf_n10, if_pos cf_p00, ↓reduceIte]) dX0_putBits_33
  · skip
    refine lv_iload_n hx hb dX0_putBits_4 rfl (lv_at hl 1 rfl) ?_
    refine lv_aload_n hx hb dX0_putBits_5 rfl (lv_at hl 0 rfl) ?_
    refine va_get (D := D) (ci := 0) (v := .ref h1) (C := RX0) (T := TX0) (N := 6) hx hb hts hin0 hown hK hP 0 rfl rfl 0 (by decide) (hts (.fieldLink RX0 9 "ControlFile" "kept" "[I") (by decide +kernel)) (fun _ h9 => h9) rfl dX0_putBits_6 ?_
    refine va_alen (v := 29) hx hb hK hP 1 0 rfl rfl rfl dX0_putBits_9 ?_
    refine lv_icmp_ge (tgt := 33) hx hb dX0_putBits_10 (by decide) (fun c_2 => ?_) (fun c_2 => ?_)
    · skip
      exact cf_wrEndN hx hb hr hlocks hP hD hK hS (by simp only [cf_putB, if_neg c_1, if_pos c_2, if_neg cf_n10, if_pos cf_p00, ↓reduceIte]) dX0_putBits_33
    · skip
      refine lv_aload_n hx hb dX0_putBits_13 rfl (lv_at hl 0 rfl) ?_
      refine va_get (D := D) (ci := 0) (v := .ref h1) (C := RX0) (T := TX0) (N := 6) hx hb hts hin0 hown hK hP 0 rfl rfl 0 (by decide) (hts (.fieldLink RX0 9 "ControlFile" "kept" "[I") (by decide +kernel)) (fun _ h9 => h9) rfl dX0_putBits_14 ?_
      refine lv_iload_n hx hb dX0_putBits_17 rfl (lv_at hl 1 rfl) ?_
      refine lv_aload_n hx hb dX0_putBits_18 rfl (lv_at hl 0 rfl) ?_
      refine va_get (D := D) (ci := 0) (v := .ref h1) (C := RX0) (T := TX0) (N := 6) hx hb hts hin0 hown hK hP 0 rfl rfl 0 (by decide) (hts (.fieldLink RX0 9 "ControlFile" "kept" "[I") (by decide +kernel)) (fun _ h9 => h9) rfl dX0_putBits_19 ?_
      refine lv_iload_n hx hb dX0_putBits_22 rfl (lv_at hl 1 rfl) ?_
      refine va_iald hx hb hK hP 1 0 rfl rfl (cf_in c_1 c_2) dX0_putBits_23 ?_
      refine lv_iload_n hx hb dX0_putBits_24 rfl (lv_at hl 3 rfl) ?_
      refine lv_iconst (v := -1) hx hb dX0_putBits_25 (by decide) ?_
      refine lv_ixor hx hb dX0_putBits_26 ?_
      refine lv_iand hx hb dX0_putBits_27 ?_
      refine lv_iload_n hx hb dX0_putBits_28 rfl (lv_at hl 2 rfl) ?_
      refine lv_iload_n hx hb dX0_putBits_29 rfl (lv_at hl 3 rfl) ?_
      refine lv_iand hx hb dX0_putBits_30 ?_
      refine lv_ior hx hb dX0_putBits_31 ?_
      refine va_iast hx hb hK hP hD hS 1 0 rfl rfl (cf_in c_1 c_2) dX0_putBits_32 (fun H locs hP hD hS => ?_)
      have hP : va_P D vwCl (cf_W 0 h0 h1 cA (upd k x.toNatClampNeg (((k x.toNatClampNeg) &&& (b ^^^ (-1))) ||| (v &&& b))) md tm al ln od) H := hP
      have hD : va_D A (cf_W 0 h0 h1 cA (upd k x.toNatClampNeg (((k x.toNatClampNeg) &&& (b ^^^ (-1))) ||| (v &&& b))) md tm al ln od) := hD
      exact cf_wrEndN hx hb hr hlocks hP hD hK hS (by simp only [cf_putB, if_neg c_1, if_neg c_2, if_neg cf_n10, if_pos cf_p00, ↓reduceIte]) dX0_putBits_33
set_option maxHeartbeats 4000000 in
set_option maxRecDepth 100000 in
theorem c_put (l : Launch) (D : va_G) (z : Nat → Nat) (h0 h1 : Nat) (cA : ClassId) (k : Nat → Int32) (md : Int32) (tm al : Int64) (ln od : Int32) (sz : Nat) (x : Int32) (v : Int32) : Met l yX0_put wsX0_put ({ frames := 1, cells := 0, slots := 0, locals := 23 } : Room) (cf_wr [.ref h0, .int x, .int v] D (cf_W 0 h0 h1 cA k md tm al ln od) [(cA, .int)] sz z) (va_Qv (fun u => u = cf_W 0 h0 h1 cA (cf_put k x v) md tm al ln od) (cf_B D [(cA, .int)] (va_A (cf_W 0 h0 h1 cA k md tm al ln od) sz)) (va_A (cf_W 0 h0 h1 cA k md tm al ln od) sz)) 0 0 (va_A (cf_W 0 h0 h1 cA k md tm al ln od) sz) := by
  refine Met.ofW (cc := cX0_put) (maxL := 3) (ret := none) (by decide) rfl ?_
  intro p e s m args below meth c s₁ B hml hv
  obtain ⟨rfl, hsz, hP, hK, hD0, hZ⟩ := hv
  have hx := B.exec
  have hb := B.bytes
  have hr := B.returns
  have hts := atoms_spec (ws := wsX0_put) B.pre
  have hown : s.vm.findClass RX0 = some m.cls := findClass_of_methodNamed B.named
  have hlocks := B.notSynchronized
  have hin0 : ∀ w ∈ wsX00, w ∈ wsX0_put := by decide +kernel
  subst hsz
  have hD := hD0.self (sz := s.heap.size)
  generalize hAe : va_A (cf_W 0 h0 h1 cA k md tm al ln od) s.heap.size = A at hD hZ ⊢
  have hA : ∀ q : Nat, s.heap.size ≤ q → A q := fun q h => by rw [← hAe]; exact Or.inr h
  have hS : va_S A s.heap s.heap [] := va_S.rf
  have hl := lv_entry ([.ref h0, .int x, .int v]) (n := 3) (Nat.le_of_ble_eq_true rfl)
  rw [lg_entry_eq]
  generalize (lg_sl ([.ref h0, .int x, .int v]) ++ List.replicate (3 - (lg_sl ([.ref h0, .int x, .int v])).length) Slot.unset).toArray = ls at hl ⊢
  have hl : lv_has ls 3 [(0, .ref h0), (1, .int x), (2, .int v)] := hl
  refine lv_iload_n hx hb dX0_put_0 rfl (lv_at hl 1 rfl) ?_
  by_cases c_1 : x = 10
  · skip
    refine lv_lookup (off := 35) (tgt := 36) hx hb dX0_put_1 (by decide) (by rw [c_1]; decide) (by decide) ?_
    refine lv_aload_n hx hb dX0_put_36 rfl (lv_at hl 0 rfl) ?_
    refine lv_bipush (v := 21) hx hb dX0_put_37 (by decide) ?_
    refine lv_iload_n hx hb dX0_put_39 rfl (lv_at hl 2 rfl) ?_
    refine lv_iconst (v := 1) hx hb dX0_put_40 (by decide) ?_
    refine lv_ishl hx hb dX0_put_41 ?_
    refine lv_aload_n hx hb dX0_put_42 rfl (lv_at hl 0 rfl) ?_
    refine va_get (D := D) (ci := 0) (v := .ref h1) (C := RX0) (T := TX0) (N := 6) hx hb hts hin0 hown hK hP 0 rfl rfl 0 (by decide) (hts (.fieldLink RX0 9 "ControlFile" "kept" "[I") (by decide +kernel)) (fun _ h9 => h9) rfl dX0_put_43 ?_
    refine lv_bipush (v := 20) hx hb dX0_put_46 (by decide) ?_
    refine cf_ld 20 hx hb hK hP 1 0 rfl rfl rfl (by decide) dX0_put_48 ?_
    refine cf_wcallN (As := [.int 21, .int (v <<< ((1 : Int32) &&& 31)), .int (k 20)]) (rest := []) (wc := cf_W 0 h0 h1 cA k md tm al ln od) (wr := []) (wF := cf_W 0 h0 h1 cA (cf_putB k 21 (v <<< ((1 : Int32) &&& 31)) (k 20)) md tm al ln od) ⟨hx, hb, hml, hown, hts⟩ (c_putBits l D z h0 h1 cA k md tm al ln od s.heap.size 21 (v <<< ((1 : Int32) &&& 31)) (k 20)) (cwV 3 hts gX0_put_X0_putBits rfl rfl rfl (by decide +kernel) ⟨Nat.le_of_ble_eq_true rfl, Nat.le_of_ble_eq_true rfl⟩) hP hD hK hZ hS hA hP [0, 1] [] rfl rfl rfl rfl (by decide) (ci := 0) (q0 := 0) rfl rfl rfl rfl hl.1 rfl (Nat.le_of_ble_eq_true rfl) dX0_put_49 ⟨Nat.zero_le _, Nat.zero_le _⟩ (fun H locs hP hD hS => ?_)
    have hP : va_P D vwCl (cf_W 0 h0 h1 cA (cf_putB k 21 (v <<< ((1 : Int32) &&& 31)) (k 20)) md tm al ln od) H := hP
    have hD : va_D A (cf_W 0 h0 h1 cA (cf_putB k 21 (v <<< ((1 : Int32) &&& 31)) (k 20)) md tm al ln od) := hD
    refine lv_goto (tgt := 121) hx hb dX0_put_52 (by decide) ?_
    exact cf_wrEndN hx hb hr hlocks hP hD hK hS (by simp only [cf_put, if_pos c_1, if_neg cf_n10, if_pos cf_p00, ↓reduceIte]) dX0_put_121
  by_cases c_2 : x = 16
  · skip
    refine lv_lookup (off := 54) (tgt := 55) hx hb dX0_put_1 (by decide) (by rw [c_2]; decide) (by decide) ?_
    refine lv_aload_n hx hb dX0_put_55 rfl (lv_at hl 0 rfl) ?_
    refine lv_bipush (v := 24) hx hb dX0_put_56 (by decide) ?_
    refine lv_iload_n hx hb dX0_put_58 rfl (lv_at hl 2 rfl) ?_
    refine lv_iconst (v := 1) hx hb dX0_put_59 (by decide) ?_
    refine lv_ishl hx hb dX0_put_60 ?_
    refine lv_iconst (v := 4) hx hb dX0_put_61 (by decide) ?_
    refine lv_aload_n hx hb dX0_put_62 rfl (lv_at hl 0 rfl) ?_
    refine va_get (D := D) (ci := 0) (v := .ref h1) (C := RX0) (T := TX0) (N := 6) hx hb hts hin0 hown hK hP 0 rfl rfl 0 (by decide) (hts (.fieldLink RX0 9 "ControlFile" "kept" "[I") (by decide +kernel)) (fun _ h9 => h9) rfl dX0_put_63 ?_
    refine lv_bipush (v := 20) hx hb dX0_put_66 (by decide) ?_
    refine cf_ld 20 hx hb hK hP 1 0 rfl rfl rfl (by decide) dX0_put_68 ?_
    refine lv_iand hx hb dX0_put_69 ?_
    refine cf_wcallN (As := [.int 24, .int (v <<< ((1 : Int32) &&& 31)), .int (4 &&& (k 20))]) (rest := []) (wc := cf_W 0 h0 h1 cA k md tm al ln od) (wr := []) (wF := cf_W 0 h0 h1 cA (cf_putB k 24 (v <<< ((1 : Int32) &&& 31)) (4 &&& (k 20))) md tm al ln od) ⟨hx, hb, hml, hown, hts⟩ (c_putBits l D z h0 h1 cA k md tm al ln od s.heap.size 24 (v <<< ((1 : Int32) &&& 31)) (4 &&& (k 20))) (cwV 3 hts gX0_put_X0_putBits rfl rfl rfl (by decide +kernel) ⟨Nat.le_of_ble_eq_true rfl, Nat.le_of_ble_eq_true rfl⟩) hP hD hK hZ hS hA hP [0, 1] [] rfl rfl rfl rfl (by decide) (ci := 0) (q0 := 0) rfl rfl rfl rfl hl.1 rfl (Nat.le_of_ble_eq_true rfl) dX0_put_70 ⟨Nat.zero_le _, Nat.zero_le _⟩ (fun H locs hP hD hS => ?_)
    have hP : va_P D vwCl (cf_W 0 h0 h1 cA (cf_putB k 24 (v <<< ((1 : Int32) &&& 31)) (4 &&& (k 20))) md tm al ln od) H := hP
    have hD : va_D A (cf_W 0 h0 h1 cA (cf_putB k 24 (v <<< ((1 : Int32) &&& 31)) (4 &&& (k 20))) md tm al ln od) := hD
    refine lv_goto (tgt := 121) hx hb dX0_put_73 (by decide) ?_
    exact cf_wrEndN hx hb hr hlocks hP hD hK hS (by simp only [cf_put, if_neg c_1, if_pos c_2, if_neg cf_n10, if_pos cf_p00, ↓reduceIte]) dX0_put_121
  by_cases c_3 : x = 23
  · skip
    refine lv_lookup (off := 75) (tgt := 76) hx hb dX0_put_1 (by decide) (by rw [c_3]; decide) (by decide) ?_
    refine lv_aload_n hx hb dX0_put_76 rfl (lv_at hl 0 rfl) ?_
    refine lv_bipush (v := 24) hx hb dX0_put_77 (by decide) ?_
    refine lv_iload_n hx hb dX0_put_79 rfl (lv_at hl 2 rfl) ?_
    refine lv_iconst (v := 4) hx hb dX0_put_80 (by decide) ?_
    refine cf_wcallN (As := [.int 24, .int v, .int 4]) (rest := []) (wc := cf_W 0 h0 h1 cA k md tm al ln od) (wr := []) (wF := cf_W 0 h0 h1 cA (cf_putB k 24 v 4) md tm al ln od) ⟨hx, hb, hml, hown, hts⟩ (c_putBits l D z h0 h1 cA k md tm al ln od s.heap.size 24 v 4) (cwV 3 hts gX0_put_X0_putBits rfl rfl rfl (by decide +kernel) ⟨Nat.le_of_ble_eq_true rfl, Nat.le_of_ble_eq_true rfl⟩) hP hD hK hZ hS hA hP [0, 1] [] rfl rfl rfl rfl (by decide) (ci := 0) (q0 := 0) rfl rfl rfl rfl hl.1 rfl (Nat.le_of_ble_eq_true rfl) dX0_put_81 ⟨Nat.zero_le _, Nat.zero_le _⟩ (fun H locs hP hD hS => ?_)
    have hP : va_P D vwCl (cf_W 0 h0 h1 cA (cf_putB k 24 v 4) md tm al ln od) H := hP
    have hD : va_D A (cf_W 0 h0 h1 cA (cf_putB k 24 v 4) md tm al ln od) := hD
    refine lv_goto (tgt := 121) hx hb dX0_put_84 (by decide) ?_
    exact cf_wrEndN hx hb hr hlocks hP hD hK hS (by simp only [cf_put, if_neg c_1, if_neg c_2, if_pos c_3, if_neg cf_n10, if_pos cf_p00, ↓reduceIte]) dX0_put_121
  refine lv_lookup (off := 86) (tgt := 87) hx hb dX0_put_1 (by decide) (show Op.lookupswitch.offset [(10, 35), (16, 54), (23, 75)] 86 (x).toInt = 86 by rw [Op.lookupswitch.offset_cons, if_neg (cf_ne (a := 10) (by decide) c_1), Op.lookupswitch.offset_cons, if_neg (cf_ne (a := 16) (by decide) c_2), Op.lookupswitch.offset_cons, if_neg (cf_ne (a := 23) (by decide) c_3), Op.lookupswitch.offset_nil]) (by decide) ?_
  refine lv_iload_n hx hb dX0_put_87 rfl (lv_at hl 1 rfl) ?_
  refine lv_if_lt (tgt := 121) hx hb dX0_put_88 (by decide) (fun c_4 => ?_) (fun c_4 => ?_)
  · skip
    exact cf_wrEndN hx hb hr hlocks hP hD hK hS (by simp only [cf_put, if_neg c_1, if_neg c_2, if_neg c_3, if_pos c_4, if_neg cf_n10, if_pos cf_p00, ↓reduceIte]) dX0_put_121
  · skip
    refine lv_iload_n hx hb dX0_put_91 rfl (lv_at hl 1 rfl) ?_
    refine lv_aload_n hx hb dX0_put_92 rfl (lv_at hl 0 rfl) ?_
    refine va_get (D := D) (ci := 0) (v := .ref h1) (C := RX0) (T := TX0) (N := 6) hx hb hts hin0 hown hK hP 0 rfl rfl 0 (by decide) (hts (.fieldLink RX0 9 "ControlFile" "kept" "[I") (by decide +kernel)) (fun _ h9 => h9) rfl dX0_put_93 ?_
    refine va_alen (v := 29) hx hb hK hP 1 0 rfl rfl rfl dX0_put_96 ?_
    refine lv_icmp_ge (tgt := 121) hx hb dX0_put_97 (by decide) (fun c_5 => ?_) (fun c_5 => ?_)
    · skip
      exact cf_wrEndN hx hb hr hlocks hP hD hK hS (by simp only [cf_put, if_neg c_1, if_neg c_2, if_neg c_3, if_neg c_4, if_pos c_5, if_neg cf_n10, if_pos cf_p00, ↓reduceIte]) dX0_put_121
    · skip
      refine lv_iload_n hx hb dX0_put_100 rfl (lv_at hl 1 rfl) ?_
      refine va_gets (C := RX0) (ref := RX0) hx hb hZ.2.1.1 hS hown (hts (.fieldLink RX0 91 "ControlFile" "KEEPS" "[I") (by decide +kernel)) (fun _ h9 => h9) dX0_put_101 ?_
      refine va_tlen (v := 29) hx hb hZ.2.1.2 hS rfl dX0_put_104 ?_
      refine lv_icmp_ge (tgt := 121) hx hb dX0_put_105 (by decide) (fun c_6 => ?_) (fun c_6 => ?_)
      · skip
        exact absurd c_6 c_5
      · skip
        refine lv_aload_n hx hb dX0_put_108 rfl (lv_at hl 0 rfl) ?_
        refine va_get (D := D) (ci := 0) (v := .ref h1) (C := RX0) (T := TX0) (N := 6) hx hb hts hin0 hown hK hP 0 rfl rfl 0 (by decide) (hts (.fieldLink RX0 9 "ControlFile" "kept" "[I") (by decide +kernel)) (fun _ h9 => h9) rfl dX0_put_109 ?_
        refine lv_iload_n hx hb dX0_put_112 rfl (lv_at hl 1 rfl) ?_
        refine lv_iload_n hx hb dX0_put_113 rfl (lv_at hl 2 rfl) ?_
        refine va_gets (C := RX0) (ref := RX0) hx hb hZ.2.1.1 hS hown (hts (.fieldLink RX0 91 "ControlFile" "KEEPS" "[I") (by decide +kernel)) (fun _ h9 => h9) dX0_put_114 ?_
        refine lv_iload_n hx hb dX0_put_117 rfl (lv_at hl 1 rfl) ?_
        refine va_ti (v := .int (cf_keep x.toNatClampNeg)) hx hb hZ.2.1.2 hS (cf_in c_4 c_6) rfl dX0_put_118 ?_
        refine lv_iand hx hb dX0_put_119 ?_
        refine va_iast hx hb hK hP hD hS 1 0 rfl rfl (cf_in c_4 c_6) dX0_put_120 (fun H locs hP hD hS => ?_)
        have hP : va_P D vwCl (cf_W 0 h0 h1 cA (upd k x.toNatClampNeg (v &&& (cf_keep x.toNatClampNeg))) md tm al ln od) H := hP
        have hD : va_D A (cf_W 0 h0 h1 cA (upd k x.toNatClampNeg (v &&& (cf_keep x.toNatClampNeg))) md tm al ln od) := hD
        exact cf_wrEndN hx hb hr hlocks hP hD hK hS (by simp only [cf_put, if_neg c_1, if_neg c_2, if_neg c_3, if_neg c_4, if_neg c_5, if_neg c_6, if_neg cf_n10, if_pos cf_p00, ↓reduceIte]) dX0_put_121
set_option maxHeartbeats 4000000 in
set_option maxRecDepth 100000 in
theorem c_access (l : Launch) (D : va_G) (z : Nat → Nat) (h0 h1 : Nat) (cA : ClassId) (k : Nat → Int32) (md : Int32) (tm al : Int64) (ln od : Int32) (sz : Nat) (n : Int32) (kd : Int32) (v : Int32) : Met l yX0_access wsX0_access ({ frames := 2, cells := 0, slots := 0, locals := 45 } : Room) (cf_wr [.ref h0, .int n, .int kd, .int v] D (cf_W 0 h0 h1 cA k md tm al ln od) [(cA, .int)] sz z) (va_Qi (fun r u => r = cf_accR k md n kd ∧ u = cf_W 0 h0 h1 cA (cf_accK k md tm al ln n kd v) md tm al ln (cf_accO k md tm al ln od n kd)) (cf_B D [(cA, .int)] (va_A (cf_W 0 h0 h1 cA k md tm al ln od) sz)) (va_A (cf_W 0 h0 h1 cA k md tm al ln od) sz)) 0 0 (va_A (cf_W 0 h0 h1 cA k md tm al ln od) sz) := by
  refine Met.ofW (cc := cX0_access) (maxL := 8) (ret := (some .int)) (by decide) rfl ?_
  intro p e s m args below meth c s₁ B hml hv
  obtain ⟨rfl, hsz, hP, hK, hD0, hZ⟩ := hv
  have hx := B.exec
  have hb := B.bytes
  have hr := B.returns
  have hts := atoms_spec (ws := wsX0_access) B.pre
  have hown : s.vm.findClass RX0 = some m.cls := findClass_of_methodNamed B.named
  have hlocks := B.notSynchronized
  have hin0 : ∀ w ∈ wsX00, w ∈ wsX0_access := by decide +kernel
  subst hsz
  have hD := hD0.self (sz := s.heap.size)
  generalize hAe : va_A (cf_W 0 h0 h1 cA k md tm al ln od) s.heap.size = A at hD hZ ⊢
  have hA : ∀ q : Nat, s.heap.size ≤ q → A q := fun q h => by rw [← hAe]; exact Or.inr h
  have hS : va_S A s.heap s.heap [] := va_S.rf
  have hl := lv_entry ([.ref h0, .int n, .int kd, .int v]) (n := 8) (Nat.le_of_ble_eq_true rfl)
  rw [lg_entry_eq]
  generalize (lg_sl ([.ref h0, .int n, .int kd, .int v]) ++ List.replicate (8 - (lg_sl ([.ref h0, .int n, .int kd, .int v])).length) Slot.unset).toArray = ls at hl ⊢
  have hl : lv_has ls 8 [(0, .ref h0), (1, .int n), (2, .int kd), (3, .int v)] := hl
  refine lv_iload_n hx hb dX0_access_0 rfl (lv_at hl 2 rfl) ?_
  refine lv_if_lt (tgt := 9) hx hb dX0_access_1 (by decide) (fun c_1 => ?_) (fun c_1 => ?_)
  · skip
    refine lv_iconst (v := -1) hx hb dX0_access_9 (by decide) ?_
    exact cf_wrEnd hx hb hr hlocks hP hD hK hS (by simp only [cf_accR, cf_accO, cf_accK, cf_bit, cf_at, if_pos c_1, if_neg cf_n10, if_pos cf_p00, ↓reduceIte]) (by simp only [cf_accR, cf_accO, cf_accK, cf_bit, cf_at, if_pos c_1, if_neg cf_n10, if_pos cf_p00, ↓reduceIte]) dX0_access_10
  · skip
    refine lv_iload_n hx hb dX0_access_4 rfl (lv_at hl 2 rfl) ?_
    refine lv_iconst (v := 3) hx hb dX0_access_5 (by decide) ?_
    refine lv_icmp_le (tgt := 11) hx hb dX0_access_6 (by decide) (fun c_2 => ?_) (fun c_2 => ?_)
    · skip
      refine lv_iload_n hx hb dX0_access_11 rfl (lv_at hl 1 rfl) ?_
      refine cf_callS (As := [.int n]) (rest := []) ⟨hx, hb, hml, hown, hts⟩ (c_slotOf l D z n) (va_cwS 1 hts gX0_access_X0_slotOf rfl rfl rfl (by decide +kernel) ⟨Nat.le_of_ble_eq_true rfl, Nat.le_of_ble_eq_true rfl⟩) (hP.sub (ws' := []) [] rfl) (hK.sub (tys' := []) [] rfl) hZ hS rfl hl.1 rfl (Nat.le_of_ble_eq_true rfl) dX0_access_12 ⟨Nat.zero_le _, Nat.zero_le _⟩ ?_
      refine lv_istore (lv' := [(4, .int (cf_slot n)), (0, .ref h0), (1, .int n), (2, .int kd), (3, .int v)]) hx hb dX0_access_15 hl (by decide) rfl (fun ls hl => ?_)
      refine lv_aload_n hx hb dX0_access_17 rfl (lv_at hl 1 rfl) ?_
      refine lv_iload hx hb dX0_access_18 (lv_at hl 0 rfl) ?_
      refine lv_iload_n hx hb dX0_access_20 rfl (lv_at hl 3 rfl) ?_
      refine lv_if_eq (tgt := 28) hx hb dX0_access_21 (by decide) (fun c_3 => ?_) (fun c_3 => ?_)
      · skip
        refine lv_iconst (v := 0) hx hb dX0_access_28 (by decide) ?_
        refine cf_callV (As := [.int (cf_slot n), .int 0]) (rest := []) ⟨hx, hb, hml, hown, hts⟩ (c_permission l D z h0 h1 cA k md tm al ln od (cf_slot n) 0) (cwV 2 hts gX0_access_X0_permission rfl rfl rfl (by decide +kernel) ⟨Nat.le_of_ble_eq_true rfl, Nat.le_of_ble_eq_true rfl⟩) hP hK hZ hS (ci := 0) (q0 := 0) rfl rfl rfl rfl hl.1 rfl (Nat.le_of_ble_eq_true rfl) dX0_access_29 ⟨Nat.zero_le _, Nat.zero_le _⟩ ?_
        refine lv_istore (lv' := [(5, .int (cf_perm k md (cf_slot n) 0)), (4, .int (cf_slot n)), (0, .ref h0), (1, .int n), (2, .int kd), (3, .int v)]) hx hb dX0_access_32 hl (by decide) rfl (fun ls hl => ?_)
        refine lv_iload hx hb dX0_access_34 (lv_at hl 0 rfl) ?_
        refine lv_if_eq (tgt := 42) hx hb dX0_access_36 (by decide) (fun c_4 => ?_) (fun c_4 => ?_)
        · skip
          refine lv_aload_n hx hb dX0_access_42 rfl (lv_at hl 2 rfl) ?_
          refine va_get (D := D) (ci := 0) (v := .int md) (C := RX0) (T := TX0) (N := 6) hx hb hts hin0 hown hK hP 0 rfl rfl 1 (by decide) (hts (.fieldLink RX0 16 "ControlFile" "modeNow" "I") (by decide +kernel)) (fun _ h9 => h9) rfl dX0_access_43 ?_
          refine lv_iconst (v := 3) hx hb dX0_access_46 (by decide) ?_
          refine lv_icmp_ne (tgt := 66) hx hb dX0_access_47 (by decide) (fun c_5 => ?_) (fun c_5 => ?_)
          · skip
            refine lv_iload hx hb dX0_access_66 (lv_at hl 1 rfl) ?_
            refine lv_istore (lv' := [(6, .int (cf_slot n)), (5, .int (cf_perm k md (cf_slot n) 0)), (4, .int (cf_slot n)), (0, .ref h0), (1, .int n), (2, .int kd), (3, .int v)]) hx hb dX0_access_68 hl (by decide) rfl (fun ls hl => ?_)
            refine lv_aload_n hx hb dX0_access_70 rfl (lv_at hl 3 rfl) ?_
            refine lv_iload hx hb dX0_access_71 (lv_at hl 0 rfl) ?_
            refine cf_callV (As := [.int (cf_slot n)]) (rest := []) ⟨hx, hb, hml, hown, hts⟩ (c_told l D z h0 h1 cA k md tm al ln od (cf_slot n)) (cwV 1 hts gX0_access_X0_told rfl rfl rfl (by decide +kernel) ⟨Nat.le_of_ble_eq_true rfl, Nat.le_of_ble_eq_true rfl⟩) hP hK hZ hS (ci := 0) (q0 := 0) rfl rfl rfl rfl hl.1 rfl (Nat.le_of_ble_eq_true rfl) dX0_access_73 ⟨Nat.zero_le _, Nat.zero_le _⟩ ?_
            refine lv_istore (lv' := [(7, .int (cf_told k tm al ln (cf_slot n))), (6, .int (cf_slot n)), (5, .int (cf_perm k md (cf_slot n) 0)), (4, .int (cf_slot n)), (0, .ref h0), (1, .int n), (2, .int kd), (3, .int v)]) hx hb dX0_access_76 hl (by decide) rfl (fun ls hl => ?_)
            refine lv_iload_n hx hb dX0_access_78 rfl (lv_at hl 6 rfl) ?_
            refine lv_if_eq (tgt := 95) hx hb dX0_access_79 (by decide) (fun c_6 => ?_) (fun c_6 => ?_)
            · skip
              refine lv_aload_n hx hb dX0_access_95 rfl (lv_at hl 4 rfl) ?_
              refine lv_iload hx hb dX0_access_96 (lv_at hl 0 rfl) ?_
              refine va_put (D := D) (ci := 0) (v := .int (cf_told k tm al ln (cf_slot n))) (ty := .int) (C := RX0) (T := TX0) (N := 6) hx hb hts hin0 tyX0 tyX0_ok nmX0 hown hK hP hD hS 0 rfl rfl 5 (by decide) (hts (.fieldLink RX0 58 "ControlFile" "oldValue" "I") (by decide +kernel)) (fun _ h9 => h9) rfl (by decide +kernel) rfl rfl (Nat.le_of_ble_eq_true rfl) dX0_access_98 (fun H locs hP hD hS => ?_)
              have hP : va_P D vwCl (cf_W 0 h0 h1 cA k md tm al ln (cf_told k tm al ln (cf_slot n))) H := hP
              have hD : va_D A (cf_W 0 h0 h1 cA k md tm al ln (cf_told k tm al ln (cf_slot n))) := hD
              refine lv_iconst (v := 0) hx hb dX0_access_101 (by decide) ?_
              exact cf_wrEnd hx hb hr hlocks hP hD hK hS (by simp only [cf_accR, cf_accO, cf_accK, cf_bit, cf_at, if_neg c_1, if_pos c_2, if_pos c_3, if_pos c_4, if_neg c_5, if_pos c_6, if_neg cf_n10, if_pos cf_p00, ↓reduceIte]) (by simp only [cf_accR, cf_accO, cf_accK, cf_bit, cf_at, if_neg c_1, if_pos c_2, if_pos c_3, if_pos c_4, if_neg c_5, if_pos c_6, if_neg cf_n10, if_pos cf_p00, ↓reduceIte]) dX0_access_102
            · skip
              exact absurd c_3 c_6
          · skip
            refine lv_iload hx hb dX0_access_50 (lv_at hl 1 rfl) ?_
            refine cf_callS (As := [.int (cf_slot n)]) (rest := []) ⟨hx, hb, hml, hown, hts⟩ (c_isOfS l D z (cf_slot n)) (va_cwS 1 hts gX0_access_X0_isOfS rfl rfl rfl (by decide +kernel) ⟨Nat.le_of_ble_eq_true rfl, Nat.le_of_ble_eq_true rfl⟩) (hP.sub (ws' := []) [] rfl) (hK.sub (tys' := []) [] rfl) hZ hS rfl hl.1 rfl (Nat.le_of_ble_eq_true rfl) dX0_access_52 ⟨Nat.zero_le _, Nat.zero_le _⟩ ?_
            refine lv_if_eq (tgt := 66) hx hb dX0_access_55 (by decide) (fun c_7 => ?_) (fun c_7 => ?_)
            · skip
              refine lv_iload hx hb dX0_access_66 (lv_at hl 1 rfl) ?_
              refine lv_istore (lv' := [(6, .int (cf_slot n)), (5, .int (cf_perm k md (cf_slot n) 0)), (4, .int (cf_slot n)), (0, .ref h0), (1, .int n), (2, .int kd), (3, .int v)]) hx hb dX0_access_68 hl (by decide) rfl (fun ls hl => ?_)
              refine lv_aload_n hx hb dX0_access_70 rfl (lv_at hl 3 rfl) ?_
              refine lv_iload hx hb dX0_access_71 (lv_at hl 0 rfl) ?_
              refine cf_callV (As := [.int (cf_slot n)]) (rest := []) ⟨hx, hb, hml, hown, hts⟩ (c_told l D z h0 h1 cA k md tm al ln od (cf_slot n)) (cwV 1 hts gX0_access_X0_told rfl rfl rfl (by decide +kernel) ⟨Nat.le_of_ble_eq_true rfl, Nat.le_of_ble_eq_true rfl⟩) hP hK hZ hS (ci := 0) (q0 := 0) rfl rfl rfl rfl hl.1 rfl (Nat.le_of_ble_eq_true rfl) dX0_access_73 ⟨Nat.zero_le _, Nat.zero_le _⟩ ?_
              refine lv_istore (lv' := [(7, .int (cf_told k tm al ln (cf_slot n))), (6, .int (cf_slot n)), (5, .int (cf_perm k md (cf_slot n) 0)), (4, .int (cf_slot n)), (0, .ref h0), (1, .int n), (2, .int kd), (3, .int v)]) hx hb dX0_access_76 hl (by decide) rfl (fun ls hl => ?_)
              refine lv_iload_n hx hb dX0_access_78 rfl (lv_at hl 6 rfl) ?_
              refine lv_if_eq (tgt := 95) hx hb dX0_access_79 (by decide) (fun c_8 => ?_) (fun c_8 => ?_)
              · skip
                refine lv_aload_n hx hb dX0_access_95 rfl (lv_at hl 4 rfl) ?_
                refine lv_iload hx hb dX0_access_96 (lv_at hl 0 rfl) ?_
                refine va_put (D := D) (ci := 0) (v := .int (cf_told k tm al ln (cf_slot n))) (ty := .int) (C := RX0) (T := TX0) (N := 6) hx hb hts hin0 tyX0 tyX0_ok nmX0 hown hK hP hD hS 0 rfl rfl 5 (by decide) (hts (.fieldLink RX0 58 "ControlFile" "oldValue" "I") (by decide +kernel)) (fun _ h9 => h9) rfl (by decide +kernel) rfl rfl (Nat.le_of_ble_eq_true rfl) dX0_access_98 (fun H locs hP hD hS => ?_)
                have hP : va_P D vwCl (cf_W 0 h0 h1 cA k md tm al ln (cf_told k tm al ln (cf_slot n))) H := hP
                have hD : va_D A (cf_W 0 h0 h1 cA k md tm al ln (cf_told k tm al ln (cf_slot n))) := hD
                refine lv_iconst (v := 0) hx hb dX0_access_101 (by decide) ?_
                exact cf_wrEnd hx hb hr hlocks hP hD hK hS (by simp only [cf_accR, cf_accO, cf_accK, cf_bit, cf_at, if_neg c_1, if_pos c_2, if_pos c_3, if_pos c_4, if_pos c_5, if_pos c_7, if_pos c_8, if_neg cf_n10, if_pos cf_p00, ↓reduceIte]) (by simp only [cf_accR, cf_accO, cf_accK, cf_bit, cf_at, if_neg c_1, if_pos c_2, if_pos c_3, if_pos c_4, if_pos c_5, if_pos c_7, if_pos c_8, if_neg cf_n10, if_pos cf_p00, ↓reduceIte]) dX0_access_102
              · skip
                exact absurd c_3 c_8
            · skip
              refine lv_iload hx hb dX0_access_58 (lv_at hl 1 rfl) ?_
              refine lv_bipush (v := 9) hx hb dX0_access_60 (by decide) ?_
              refine lv_iadd hx hb dX0_access_62 ?_
              refine lv_goto (tgt := 68) hx hb dX0_access_63 (by decide) ?_
              refine lv_istore (lv' := [(6, .int ((cf_slot n) + 9)), (5, .int (cf_perm k md (cf_slot n) 0)), (4, .int (cf_slot n)), (0, .ref h0), (1, .int n), (2, .int kd), (3, .int v)]) hx hb dX0_access_68 hl (by decide) rfl (fun ls hl => ?_)
              refine lv_aload_n hx hb dX0_access_70 rfl (lv_at hl 3 rfl) ?_
              refine lv_iload hx hb dX0_access_71 (lv_at hl 0 rfl) ?_
              refine cf_callV (As := [.int ((cf_slot n) + 9)]) (rest := []) ⟨hx, hb, hml, hown, hts⟩ (c_told l D z h0 h1 cA k md tm al ln od ((cf_slot n) + 9)) (cwV 1 hts gX0_access_X0_told rfl rfl rfl (by decide +kernel) ⟨Nat.le_of_ble_eq_true rfl, Nat.le_of_ble_eq_true rfl⟩) hP hK hZ hS (ci := 0) (q0 := 0) rfl rfl rfl rfl hl.1 rfl (Nat.le_of_ble_eq_true rfl) dX0_access_73 ⟨Nat.zero_le _, Nat.zero_le _⟩ ?_
              refine lv_istore (lv' := [(7, .int (cf_told k tm al ln ((cf_slot n) + 9))), (6, .int ((cf_slot n) + 9)), (5, .int (cf_perm k md (cf_slot n) 0)), (4, .int (cf_slot n)), (0, .ref h0), (1, .int n), (2, .int kd), (3, .int v)]) hx hb dX0_access_76 hl (by decide) rfl (fun ls hl => ?_)
              refine lv_iload_n hx hb dX0_access_78 rfl (lv_at hl 6 rfl) ?_
              refine lv_if_eq (tgt := 95) hx hb dX0_access_79 (by decide) (fun c_9 => ?_) (fun c_9 => ?_)
              · skip
                refine lv_aload_n hx hb dX0_access_95 rfl (lv_at hl 4 rfl) ?_
                refine lv_iload hx hb dX0_access_96 (lv_at hl 0 rfl) ?_
                refine va_put (D := D) (ci := 0) (v := .int (cf_told k tm al ln ((cf_slot n) + 9))) (ty := .int) (C := RX0) (T := TX0) (N := 6) hx hb hts hin0 tyX0 tyX0_ok nmX0 hown hK hP hD hS 0 rfl rfl 5 (by decide) (hts (.fieldLink RX0 58 "ControlFile" "oldValue" "I") (by decide +kernel)) (fun _ h9 => h9) rfl (by decide +kernel) rfl rfl (Nat.le_of_ble_eq_true rfl) dX0_access_98 (fun H locs hP hD hS => ?_)
                have hP : va_P D vwCl (cf_W 0 h0 h1 cA k md tm al ln (cf_told k tm al ln ((cf_slot n) + 9))) H := hP
                have hD : va_D A (cf_W 0 h0 h1 cA k md tm al ln (cf_told k tm al ln ((cf_slot n) + 9))) := hD
                refine lv_iconst (v := 0) hx hb dX0_access_101 (by decide) ?_
                exact cf_wrEnd hx hb hr hlocks hP hD hK hS (by simp only [cf_accR, cf_accO, cf_accK, cf_bit, cf_at, if_neg c_1, if_pos c_2, if_pos c_3, if_pos c_4, if_pos c_5, if_neg c_7, if_pos c_9, if_neg cf_n10, if_pos cf_p00, ↓reduceIte]) (by simp only [cf_accR, cf_accO, cf_accK, cf_bit, cf_at, if_neg c_1, if_pos c_2, if_pos c_3, if_pos c_4, if_pos c_5, if_neg c_7, if_pos c_9, if_neg cf_n10, if_pos cf_p00, ↓reduceIte]) dX0_access_102
              · skip
                exact absurd c_3 c_9
        · skip
          refine lv_iload hx hb dX0_access_39 (lv_at hl 0 rfl) ?_
          exact cf_wrEnd hx hb hr hlocks hP hD hK hS (by simp only [cf_accR, cf_accO, cf_accK, cf_bit, cf_at, if_neg c_1, if_pos c_2, if_pos c_3, if_neg c_4, if_neg cf_n10, if_pos cf_p00, ↓reduceIte]) (by simp only [cf_accR, cf_accO, cf_accK, cf_bit, cf_at, if_neg c_1, if_pos c_2, if_pos c_3, if_neg c_4, if_neg cf_n10, if_pos cf_p00, ↓reduceIte]) dX0_access_41
      · skip
        refine lv_iconst (v := 1) hx hb dX0_access_24 (by decide) ?_
        refine lv_goto (tgt := 29) hx hb dX0_access_25 (by decide) ?_
        refine cf_callV (As := [.int (cf_slot n), .int 1]) (rest := []) ⟨hx, hb, hml, hown, hts⟩ (c_permission l D z h0 h1 cA k md tm al ln od (cf_slot n) 1) (cwV 2 hts gX0_access_X0_permission rfl rfl rfl (by decide +kernel) ⟨Nat.le_of_ble_eq_true rfl, Nat.le_of_ble_eq_true rfl⟩) hP hK hZ hS (ci := 0) (q0 := 0) rfl rfl rfl rfl hl.1 rfl (Nat.le_of_ble_eq_true rfl) dX0_access_29 ⟨Nat.zero_le _, Nat.zero_le _⟩ ?_
        refine lv_istore (lv' := [(5, .int (cf_perm k md (cf_slot n) 1)), (4, .int (cf_slot n)), (0, .ref h0), (1, .int n), (2, .int kd), (3, .int v)]) hx hb dX0_access_32 hl (by decide) rfl (fun ls hl => ?_)
        refine lv_iload hx hb dX0_access_34 (lv_at hl 0 rfl) ?_
        refine lv_if_eq (tgt := 42) hx hb dX0_access_36 (by decide) (fun c_10 => ?_) (fun c_10 => ?_)
        · skip
          refine lv_aload_n hx hb dX0_access_42 rfl (lv_at hl 2 rfl) ?_
          refine va_get (D := D) (ci := 0) (v := .int md) (C := RX0) (T := TX0) (N := 6) hx hb hts hin0 hown hK hP 0 rfl rfl 1 (by decide) (hts (.fieldLink RX0 16 "ControlFile" "modeNow" "I") (by decide +kernel)) (fun _ h9 => h9) rfl dX0_access_43 ?_
          refine lv_iconst (v := 3) hx hb dX0_access_46 (by decide) ?_
          refine lv_icmp_ne (tgt := 66) hx hb dX0_access_47 (by decide) (fun c_11 => ?_) (fun c_11 => ?_)
          · skip
            refine lv_iload hx hb dX0_access_66 (lv_at hl 1 rfl) ?_
            refine lv_istore (lv' := [(6, .int (cf_slot n)), (5, .int (cf_perm k md (cf_slot n) 1)), (4, .int (cf_slot n)), (0, .ref h0), (1, .int n), (2, .int kd), (3, .int v)]) hx hb dX0_access_68 hl (by decide) rfl (fun ls hl => ?_)
            refine lv_aload_n hx hb dX0_access_70 rfl (lv_at hl 3 rfl) ?_
            refine lv_iload hx hb dX0_access_71 (lv_at hl 0 rfl) ?_
            refine cf_callV (As := [.int (cf_slot n)]) (rest := []) ⟨hx, hb, hml, hown, hts⟩ (c_told l D z h0 h1 cA k md tm al ln od (cf_slot n)) (cwV 1 hts gX0_access_X0_told rfl rfl rfl (by decide +kernel) ⟨Nat.le_of_ble_eq_true rfl, Nat.le_of_ble_eq_true rfl⟩) hP hK hZ hS (ci := 0) (q0 := 0) rfl rfl rfl rfl hl.1 rfl (Nat.le_of_ble_eq_true rfl) dX0_access_73 ⟨Nat.zero_le _, Nat.zero_le _⟩ ?_
            refine lv_istore (lv' := [(7, .int (cf_told k tm al ln (cf_slot n))), (6, .int (cf_slot n)), (5, .int (cf_perm k md (cf_slot n) 1)), (4, .int (cf_slot n)), (0, .ref h0), (1, .int n), (2, .int kd), (3, .int v)]) hx hb dX0_access_76 hl (by decide) rfl (fun ls hl => ?_)
            refine lv_iload_n hx hb dX0_access_78 rfl (lv_at hl 6 rfl) ?_
            refine lv_if_eq (tgt := 95) hx hb dX0_access_79 (by decide) (fun c_12 => ?_) (fun c_12 => ?_)
            · skip
              exact absurd c_12 c_3
            · skip
              refine lv_aload_n hx hb dX0_access_82 rfl (lv_at hl 4 rfl) ?_
              refine lv_iload hx hb dX0_access_83 (lv_at hl 1 rfl) ?_
              refine lv_iload hx hb dX0_access_85 (lv_at hl 0 rfl) ?_
              refine lv_iload_n hx hb dX0_access_87 rfl (lv_at hl 6 rfl) ?_
              refine lv_iload_n hx hb dX0_access_88 rfl (lv_at hl 7 rfl) ?_
              refine cf_callS (As := [.int (cf_told k tm al ln (cf_slot n)), .int kd, .int v]) (rest := [.int (cf_slot n), .ref h0]) ⟨hx, hb, hml, hown, hts⟩ (c_written l D z (cf_told k tm al ln (cf_slot n)) kd v) (va_cwS 3 hts gX0_access_X0_written rfl rfl rfl (by decide +kernel) ⟨Nat.le_of_ble_eq_true rfl, Nat.le_of_ble_eq_true rfl⟩) (hP.sub (ws' := []) [] rfl) (hK.sub (tys' := []) [] rfl) hZ hS rfl hl.1 rfl (Nat.le_of_ble_eq_true rfl) dX0_access_89 ⟨Nat.zero_le _, Nat.zero_le _⟩ ?_
              refine cf_wcallN (As := [.int (cf_slot n), .int (cf_wrt (cf_told k tm al ln (cf_slot n)) kd v)]) (rest := []) (wc := cf_W 0 h0 h1 cA k md tm al ln od) (wr := []) (wF := cf_W 0 h0 h1 cA (cf_put k (cf_slot n) (cf_wrt (cf_told k tm al ln (cf_slot n)) kd v)) md tm al ln od) ⟨hx, hb, hml, hown, hts⟩ (c_put l D z h0 h1 cA k md tm al ln od s.heap.size (cf_slot n) (cf_wrt (cf_told k tm al ln (cf_slot n)) kd v)) (cwV 2 hts gX0_access_X0_put rfl rfl rfl (by decide +kernel) ⟨Nat.le_of_ble_eq_true rfl, Nat.le_of_ble_eq_true rfl⟩) hP hD hK hZ hS hA hP [0, 1] [] rfl rfl rfl rfl (by decide) (ci := 0) (q0 := 0) rfl rfl rfl rfl hl.1 rfl (Nat.le_of_ble_eq_true rfl) dX0_access_92 ⟨Nat.zero_le _, Nat.zero_le _⟩ (fun H locs hP hD hS => ?_)
              have hP : va_P D vwCl (cf_W 0 h0 h1 cA (cf_put k (cf_slot n) (cf_wrt (cf_told k tm al ln (cf_slot n)) kd v)) md tm al ln od) H := hP
              have hD : va_D A (cf_W 0 h0 h1 cA (cf_put k (cf_slot n) (cf_wrt (cf_told k tm al ln (cf_slot n)) kd v)) md tm al ln od) := hD
              refine lv_aload_n hx hb dX0_access_95 rfl (lv_at hl 4 rfl) ?_
              refine lv_iload hx hb dX0_access_96 (lv_at hl 0 rfl) ?_
              refine va_put (D := D) (ci := 0) (v := .int (cf_told k tm al ln (cf_slot n))) (ty := .int) (C := RX0) (T := TX0) (N := 6) hx hb hts hin0 tyX0 tyX0_ok nmX0 hown hK hP hD hS 0 rfl rfl 5 (by decide) (hts (.fieldLink RX0 58 "ControlFile" "oldValue" "I") (by decide +kernel)) (fun _ h9 => h9) rfl (by decide +kernel) rfl rfl (Nat.le_of_ble_eq_true rfl) dX0_access_98 (fun H locs hP hD hS => ?_)
              have hP : va_P D vwCl (cf_W 0 h0 h1 cA (cf_put k (cf_slot n) (cf_wrt (cf_told k tm al ln (cf_slot n)) kd v)) md tm al ln (cf_told k tm al ln (cf_slot n))) H := hP
              have hD : va_D A (cf_W 0 h0 h1 cA (cf_put k (cf_slot n) (cf_wrt (cf_told k tm al ln (cf_slot n)) kd v)) md tm al ln (cf_told k tm al ln (cf_slot n))) := hD
              refine lv_iconst (v := 0) hx hb dX0_access_101 (by decide) ?_
              exact cf_wrEnd hx hb hr hlocks hP hD hK hS (by simp only [cf_accR, cf_accO, cf_accK, cf_bit, cf_at, if_neg c_1, if_pos c_2, if_neg c_3, if_pos c_10, if_neg c_11, if_neg c_12, if_neg cf_n10, if_pos cf_p00, ↓reduceIte]) (by simp only [cf_accR, cf_accO, cf_accK, cf_bit, cf_at, if_neg c_1, if_pos c_2, if_neg c_3, if_pos c_10, if_neg c_11, if_neg c_12, if_neg cf_n10, if_pos cf_p00, ↓reduceIte]) dX0_access_102
          · skip
            refine lv_iload hx hb dX0_access_50 (lv_at hl 1 rfl) ?_
            refine cf_callS (As := [.int (cf_slot n)]) (rest := []) ⟨hx, hb, hml, hown, hts⟩ (c_isOfS l D z (cf_slot n)) (va_cwS 1 hts gX0_access_X0_isOfS rfl rfl rfl (by decide +kernel) ⟨Nat.le_of_ble_eq_true rfl, Nat.le_of_ble_eq_true rfl⟩) (hP.sub (ws' := []) [] rfl) (hK.sub (tys' := []) [] rfl) hZ hS rfl hl.1 rfl (Nat.le_of_ble_eq_true rfl) dX0_access_52 ⟨Nat.zero_le _, Nat.zero_le _⟩ ?_
            refine lv_if_eq (tgt := 66) hx hb dX0_access_55 (by decide) (fun c_13 => ?_) (fun c_13 => ?_)
            · skip
              refine lv_iload hx hb dX0_access_66 (lv_at hl 1 rfl) ?_
              refine lv_istore (lv' := [(6, .int (cf_slot n)), (5, .int (cf_perm k md (cf_slot n) 1)), (4, .int (cf_slot n)), (0, .ref h0), (1, .int n), (2, .int kd), (3, .int v)]) hx hb dX0_access_68 hl (by decide) rfl (fun ls hl => ?_)
              refine lv_aload_n hx hb dX0_access_70 rfl (lv_at hl 3 rfl) ?_
              refine lv_iload hx hb dX0_access_71 (lv_at hl 0 rfl) ?_
              refine cf_callV (As := [.int (cf_slot n)]) (rest := []) ⟨hx, hb, hml, hown, hts⟩ (c_told l D z h0 h1 cA k md tm al ln od (cf_slot n)) (cwV 1 hts gX0_access_X0_told rfl rfl rfl (by decide +kernel) ⟨Nat.le_of_ble_eq_true rfl, Nat.le_of_ble_eq_true rfl⟩) hP hK hZ hS (ci := 0) (q0 := 0) rfl rfl rfl rfl hl.1 rfl (Nat.le_of_ble_eq_true rfl) dX0_access_73 ⟨Nat.zero_le _, Nat.zero_le _⟩ ?_
              refine lv_istore (lv' := [(7, .int (cf_told k tm al ln (cf_slot n))), (6, .int (cf_slot n)), (5, .int (cf_perm k md (cf_slot n) 1)), (4, .int (cf_slot n)), (0, .ref h0), (1, .int n), (2, .int kd), (3, .int v)]) hx hb dX0_access_76 hl (by decide) rfl (fun ls hl => ?_)
              refine lv_iload_n hx hb dX0_access_78 rfl (lv_at hl 6 rfl) ?_
              refine lv_if_eq (tgt := 95) hx hb dX0_access_79 (by decide) (fun c_14 => ?_) (fun c_14 => ?_)
              · skip
                exact absurd c_14 c_3
              · skip
                refine lv_aload_n hx hb dX0_access_82 rfl (lv_at hl 4 rfl) ?_
                refine lv_iload hx hb dX0_access_83 (lv_at hl 1 rfl) ?_
                refine lv_iload hx hb dX0_access_85 (lv_at hl 0 rfl) ?_
                refine lv_iload_n hx hb dX0_access_87 rfl (lv_at hl 6 rfl) ?_
                refine lv_iload_n hx hb dX0_access_88 rfl (lv_at hl 7 rfl) ?_
                refine cf_callS (As := [.int (cf_told k tm al ln (cf_slot n)), .int kd, .int v]) (rest := [.int (cf_slot n), .ref h0]) ⟨hx, hb, hml, hown, hts⟩ (c_written l D z (cf_told k tm al ln (cf_slot n)) kd v) (va_cwS 3 hts gX0_access_X0_written rfl rfl rfl (by decide +kernel) ⟨Nat.le_of_ble_eq_true rfl, Nat.le_of_ble_eq_true rfl⟩) (hP.sub (ws' := []) [] rfl) (hK.sub (tys' := []) [] rfl) hZ hS rfl hl.1 rfl (Nat.le_of_ble_eq_true rfl) dX0_access_89 ⟨Nat.zero_le _, Nat.zero_le _⟩ ?_
                refine cf_wcallN (As := [.int (cf_slot n), .int (cf_wrt (cf_told k tm al ln (cf_slot n)) kd v)]) (rest := []) (wc := cf_W 0 h0 h1 cA k md tm al ln od) (wr := []) (wF := cf_W 0 h0 h1 cA (cf_put k (cf_slot n) (cf_wrt (cf_told k tm al ln (cf_slot n)) kd v)) md tm al ln od) ⟨hx, hb, hml, hown, hts⟩ (c_put l D z h0 h1 cA k md tm al ln od s.heap.size (cf_slot n) (cf_wrt (cf_told k tm al ln (cf_slot n)) kd v)) (cwV 2 hts gX0_access_X0_put rfl rfl rfl (by decide +kernel) ⟨Nat.le_of_ble_eq_true rfl, Nat.le_of_ble_eq_true rfl⟩) hP hD hK hZ hS hA hP [0, 1] [] rfl rfl rfl rfl (by decide) (ci := 0) (q0 := 0) rfl rfl rfl rfl hl.1 rfl (Nat.le_of_ble_eq_true rfl) dX0_access_92 ⟨Nat.zero_le _, Nat.zero_le _⟩ (fun H locs hP hD hS => ?_)
                have hP : va_P D vwCl (cf_W 0 h0 h1 cA (cf_put k (cf_slot n) (cf_wrt (cf_told k tm al ln (cf_slot n)) kd v)) md tm al ln od) H := hP
                have hD : va_D A (cf_W 0 h0 h1 cA (cf_put k (cf_slot n) (cf_wrt (cf_told k tm al ln (cf_slot n)) kd v)) md tm al ln od) := hD
                refine lv_aload_n hx hb dX0_access_95 rfl (lv_at hl 4 rfl) ?_
                refine lv_iload hx hb dX0_access_96 (lv_at hl 0 rfl) ?_
                refine va_put (D := D) (ci := 0) (v := .int (cf_told k tm al ln (cf_slot n))) (ty := .int) (C := RX0) (T := TX0) (N := 6) hx hb hts hin0 tyX0 tyX0_ok nmX0 hown hK hP hD hS 0 rfl rfl 5 (by decide) (hts (.fieldLink RX0 58 "ControlFile" "oldValue" "I") (by decide +kernel)) (fun _ h9 => h9) rfl (by decide +kernel) rfl rfl (Nat.le_of_ble_eq_true rfl) dX0_access_98 (fun H locs hP hD hS => ?_)
                have hP : va_P D vwCl (cf_W 0 h0 h1 cA (cf_put k (cf_slot n) (cf_wrt (cf_told k tm al ln (cf_slot n)) kd v)) md tm al ln (cf_told k tm al ln (cf_slot n))) H := hP
                have hD : va_D A (cf_W 0 h0 h1 cA (cf_put k (cf_slot n) (cf_wrt (cf_told k tm al ln (cf_slot n)) kd v)) md tm al ln (cf_told k tm al ln (cf_slot n))) := hD
                refine lv_iconst (v := 0) hx hb dX0_access_101 (by decide) ?_
                exact cf_wrEnd hx hb hr hlocks hP hD hK hS (by simp only [cf_accR, cf_accO, cf_accK, cf_bit, cf_at, if_neg c_1, if_pos c_2, if_neg c_3, if_pos c_10, if_pos c_11, if_pos c_13, if_neg c_14, if_neg cf_n10, if_pos cf_p00, ↓reduceIte]) (by simp only [cf_accR, cf_accO, cf_accK, cf_bit, cf_at, if_neg c_1, if_pos c_2, if_neg c_3, if_pos c_10, if_pos c_11, if_pos c_13, if_neg c_14, if_neg cf_n10, if_pos cf_p00, ↓reduceIte]) dX0_access_102
            · skip
              refine lv_iload hx hb dX0_access_58 (lv_at hl 1 rfl) ?_
              refine lv_bipush (v := 9) hx hb dX0_access_60 (by decide) ?_
              refine lv_iadd hx hb dX0_access_62 ?_
              refine lv_goto (tgt := 68) hx hb dX0_access_63 (by decide) ?_
              refine lv_istore (lv' := [(6, .int ((cf_slot n) + 9)), (5, .int (cf_perm k md (cf_slot n) 1)), (4, .int (cf_slot n)), (0, .ref h0), (1, .int n), (2, .int kd), (3, .int v)]) hx hb dX0_access_68 hl (by decide) rfl (fun ls hl => ?_)
              refine lv_aload_n hx hb dX0_access_70 rfl (lv_at hl 3 rfl) ?_
              refine lv_iload hx hb dX0_access_71 (lv_at hl 0 rfl) ?_
              refine cf_callV (As := [.int ((cf_slot n) + 9)]) (rest := []) ⟨hx, hb, hml, hown, hts⟩ (c_told l D z h0 h1 cA k md tm al ln od ((cf_slot n) + 9)) (cwV 1 hts gX0_access_X0_told rfl rfl rfl (by decide +kernel) ⟨Nat.le_of_ble_eq_true rfl, Nat.le_of_ble_eq_true rfl⟩) hP hK hZ hS (ci := 0) (q0 := 0) rfl rfl rfl rfl hl.1 rfl (Nat.le_of_ble_eq_true rfl) dX0_access_73 ⟨Nat.zero_le _, Nat.zero_le _⟩ ?_
              refine lv_istore (lv' := [(7, .int (cf_told k tm al ln ((cf_slot n) + 9))), (6, .int ((cf_slot n) + 9)), (5, .int (cf_perm k md (cf_slot n) 1)), (4, .int (cf_slot n)), (0, .ref h0), (1, .int n), (2, .int kd), (3, .int v)]) hx hb dX0_access_76 hl (by decide) rfl (fun ls hl => ?_)
              refine lv_iload_n hx hb dX0_access_78 rfl (lv_at hl 6 rfl) ?_
              refine lv_if_eq (tgt := 95) hx hb dX0_access_79 (by decide) (fun c_15 => ?_) (fun c_15 => ?_)
              · skip
                exact absurd c_15 c_3
              · skip
                refine lv_aload_n hx hb dX0_access_82 rfl (lv_at hl 4 rfl) ?_
                refine lv_iload hx hb dX0_access_83 (lv_at hl 1 rfl) ?_
                refine lv_iload hx hb dX0_access_85 (lv_at hl 0 rfl) ?_
                refine lv_iload_n hx hb dX0_access_87 rfl (lv_at hl 6 rfl) ?_
                refine lv_iload_n hx hb dX0_access_88 rfl (lv_at hl 7 rfl) ?_
                refine cf_callS (As := [.int (cf_told k tm al ln ((cf_slot n) + 9)), .int kd, .int v]) (rest := [.int ((cf_slot n) + 9), .ref h0]) ⟨hx, hb, hml, hown, hts⟩ (c_written l D z (cf_told k tm al ln ((cf_slot n) + 9)) kd v) (va_cwS 3 hts gX0_access_X0_written rfl rfl rfl (by decide +kernel) ⟨Nat.le_of_ble_eq_true rfl, Nat.le_of_ble_eq_true rfl⟩) (hP.sub (ws' := []) [] rfl) (hK.sub (tys' := []) [] rfl) hZ hS rfl hl.1 rfl (Nat.le_of_ble_eq_true rfl) dX0_access_89 ⟨Nat.zero_le _, Nat.zero_le _⟩ ?_
                refine cf_wcallN (As := [.int ((cf_slot n) + 9), .int (cf_wrt (cf_told k tm al ln ((cf_slot n) + 9)) kd v)]) (rest := []) (wc := cf_W 0 h0 h1 cA k md tm al ln od) (wr := []) (wF := cf_W 0 h0 h1 cA (cf_put k ((cf_slot n) + 9) (cf_wrt (cf_told k tm al ln ((cf_slot n) + 9)) kd v)) md tm al ln od) ⟨hx, hb, hml, hown, hts⟩ (c_put l D z h0 h1 cA k md tm al ln od s.heap.size ((cf_slot n) + 9) (cf_wrt (cf_told k tm al ln ((cf_slot n) + 9)) kd v)) (cwV 2 hts gX0_access_X0_put rfl rfl rfl (by decide +kernel) ⟨Nat.le_of_ble_eq_true rfl, Nat.le_of_ble_eq_true rfl⟩) hP hD hK hZ hS hA hP [0, 1] [] rfl rfl rfl rfl (by decide) (ci := 0) (q0 := 0) rfl rfl rfl rfl hl.1 rfl (Nat.le_of_ble_eq_true rfl) dX0_access_92 ⟨Nat.zero_le _, Nat.zero_le _⟩ (fun H locs hP hD hS => ?_)
                have hP : va_P D vwCl (cf_W 0 h0 h1 cA (cf_put k ((cf_slot n) + 9) (cf_wrt (cf_told k tm al ln ((cf_slot n) + 9)) kd v)) md tm al ln od) H := hP
                have hD : va_D A (cf_W 0 h0 h1 cA (cf_put k ((cf_slot n) + 9) (cf_wrt (cf_told k tm al ln ((cf_slot n) + 9)) kd v)) md tm al ln od) := hD
                refine lv_aload_n hx hb dX0_access_95 rfl (lv_at hl 4 rfl) ?_
                refine lv_iload hx hb dX0_access_96 (lv_at hl 0 rfl) ?_
                refine va_put (D := D) (ci := 0) (v := .int (cf_told k tm al ln ((cf_slot n) + 9))) (ty := .int) (C := RX0) (T := TX0) (N := 6) hx hb hts hin0 tyX0 tyX0_ok nmX0 hown hK hP hD hS 0 rfl rfl 5 (by decide) (hts (.fieldLink RX0 58 "ControlFile" "oldValue" "I") (by decide +kernel)) (fun _ h9 => h9) rfl (by decide +kernel) rfl rfl (Nat.le_of_ble_eq_true rfl) dX0_access_98 (fun H locs hP hD hS => ?_)
                have hP : va_P D vwCl (cf_W 0 h0 h1 cA (cf_put k ((cf_slot n) + 9) (cf_wrt (cf_told k tm al ln ((cf_slot n) + 9)) kd v)) md tm al ln (cf_told k tm al ln ((cf_slot n) + 9))) H := hP
                have hD : va_D A (cf_W 0 h0 h1 cA (cf_put k ((cf_slot n) + 9) (cf_wrt (cf_told k tm al ln ((cf_slot n) + 9)) kd v)) md tm al ln (cf_told k tm al ln ((cf_slot n) + 9))) := hD
                refine lv_iconst (v := 0) hx hb dX0_access_101 (by decide) ?_
                exact cf_wrEnd hx hb hr hlocks hP hD hK hS (by simp only [cf_accR, cf_accO, cf_accK, cf_bit, cf_at, if_neg c_1, if_pos c_2, if_neg c_3, if_pos c_10, if_pos c_11, if_neg c_13, if_neg c_15, if_neg cf_n10, if_pos cf_p00, ↓reduceIte]) (by simp only [cf_accR, cf_accO, cf_accK, cf_bit, cf_at, if_neg c_1, if_pos c_2, if_neg c_3, if_pos c_10, if_pos c_11, if_neg c_13, if_neg c_15, if_neg cf_n10, if_pos cf_p00, ↓reduceIte]) dX0_access_102
        · skip
          refine lv_iload hx hb dX0_access_39 (lv_at hl 0 rfl) ?_
          exact cf_wrEnd hx hb hr hlocks hP hD hK hS (by simp only [cf_accR, cf_accO, cf_accK, cf_bit, cf_at, if_neg c_1, if_pos c_2, if_neg c_3, if_neg c_10, if_neg cf_n10, if_pos cf_p00, ↓reduceIte]) (by simp only [cf_accR, cf_accO, cf_accK, cf_bit, cf_at, if_neg c_1, if_pos c_2, if_neg c_3, if_neg c_10, if_neg cf_n10, if_pos cf_p00, ↓reduceIte]) dX0_access_41
    · skip
      refine lv_iconst (v := -1) hx hb dX0_access_9 (by decide) ?_
      exact cf_wrEnd hx hb hr hlocks hP hD hK hS (by simp only [cf_accR, cf_accO, cf_accK, cf_bit, cf_at, if_neg c_1, if_neg c_2, if_neg cf_n10, if_pos cf_p00, ↓reduceIte]) (by simp only [cf_accR, cf_accO, cf_accK, cf_bit, cf_at, if_neg c_1, if_neg c_2, if_neg cf_n10, if_pos cf_p00, ↓reduceIte]) dX0_access_10
set_option maxHeartbeats 4000000 in
set_option maxRecDepth 100000 in
/-- Arrays.fill over the row of 29 -/
theorem c_fill (l : Launch) (D : va_G) (z : Nat → Nat) (h1 : Nat) (cA : ClassId) (f : Nat → Int32) (v : Int32) (sz : Nat) : Met l yJ7_fill_53178 wsJ7_fill_53178 ({ frames := 0, cells := 0, slots := 0, locals := 0 } : Room) (cf_wr [.ref h1, .int v] D [(h1, .inl (cA, 29, .inl f))] [(cA, .int)] sz z) (va_Qv (fun u => u = [(h1, .inl (cA, 29, .inl (cf_fill f v 29)))]) (cf_B D [(cA, .int)] (va_A [(h1, .inl (cA, 29, .inl f))] sz)) (va_A [(h1, .inl (cA, 29, .inl f))] sz)) 0 0 (va_A [(h1, .inl (cA, 29, .inl f))] sz) := by
  refine Met.ofW (cc := cJ7_fill_53178) (maxL := 4) (ret := none) (by decide) rfl ?_
  intro p e s m args below meth c s₁ B hml hv
  obtain ⟨rfl, hsz, hP, hK, hD0, hZ⟩ := hv
  have hx := B.exec
  have hb := B.bytes
  have hr := B.returns
  have hlocks := B.notSynchronized
  subst hsz
  have hD := hD0.self (sz := s.heap.size)
  generalize hAe : va_A [(h1, .inl (cA, 29, .inl f))] s.heap.size = A at hD hZ ⊢
  have hA : ∀ q : Nat, s.heap.size ≤ q → A q := fun q h => by rw [← hAe]; exact Or.inr h
  have hS : va_S A s.heap s.heap [] := va_S.rf
  have hl := lv_entry ([.ref h1, .int v]) (n := 4) (Nat.le_of_ble_eq_true rfl)
  rw [lg_entry_eq]
  generalize (lg_sl ([.ref h1, .int v]) ++ List.replicate (4 - (lg_sl ([.ref h1, .int v])).length) Slot.unset).toArray = ls at hl ⊢
  have hl : lv_has ls 4 [(0, .ref h1), (1, .int v)] := hl
  refine lv_iconst (v := 0) hx hb dJ7_fill_53178_0 (by decide) ?_
  refine lv_istore_n (lv' := [(2, .int 0), (0, .ref h1), (1, .int v)]) hx hb dJ7_fill_53178_1 rfl hl (by decide) rfl (fun ls hl => ?_)
  refine lv_aload_n hx hb dJ7_fill_53178_2 rfl (lv_at hl 1 rfl) ?_
  refine va_alen (v := 29) hx hb hK hP 0 0 rfl rfl rfl dJ7_fill_53178_3 ?_
  refine lv_istore_n (lv' := [(3, .int 29), (2, .int 0), (0, .ref h1), (1, .int v)]) hx hb dJ7_fill_53178_4 rfl hl (by decide) rfl (fun ls hl => ?_)
  refine cf_indH (G := fun H locs g => W p l e _ s m _ below meth c H locs 0 0 _ g) 29 (fun i H locs ls => lv_has ls 4 [(2, .int (nI i)), (3, .int 29), (0, .ref h1), (1, .int v)] ∧ va_P D vwCl [(h1, .inl (cA, 29, .inl (cf_fill f v i)))] H ∧ va_D A [(h1, .inl (cA, 29, .inl (cf_fill f v i)))] ∧ va_S A s.heap H locs) ?_ ?_ 29 0 s.heap [] ls rfl (by omega) ⟨lv_sub hl [1, 0, 2, 3] rfl, by rw [cf_fill_0]; exact hP, by rw [cf_fill_0]; exact hD, hS⟩
  · intro i H locs ls hi hI ih
    obtain ⟨hl, hP, hD, hS⟩ := hI
    refine lv_iload_n hx hb dJ7_fill_53178_5 rfl (lv_at hl 0 rfl) ?_
    refine lv_iload_n hx hb dJ7_fill_53178_6 rfl (lv_at hl 1 rfl) ?_
    refine lv_icmp_ge (tgt := 20) hx hb dJ7_fill_53178_7 (by decide) (fun c_1 => ?_) (fun c_1 => ?_)
    · skip
      exact absurd c_1 (show ¬ (29 : Int32) ≤ nI i from nI_ge hi (by decide))
    · skip
      refine lv_aload_n hx hb dJ7_fill_53178_10 rfl (lv_at hl 2 rfl) ?_
      refine lv_iload_n hx hb dJ7_fill_53178_11 rfl (lv_at hl 0 rfl) ?_
      refine lv_iload_n hx hb dJ7_fill_53178_12 rfl (lv_at hl 3 rfl) ?_
      refine va_iast hx hb hK hP hD hS 0 0 rfl rfl (vp_in_nI hi (by omega)) dJ7_fill_53178_13 (fun H locs hP hD hS => ?_)
      have hP : va_P D vwCl ([(h1, .inl (cA, 29, .inl (upd (cf_fill f v i) (nI i).toNatClampNeg v)))]) H := hP
      have hD : va_D A ([(h1, .inl (cA, 29, .inl (upd (cf_fill f v i) (nI i).toNatClampNeg v)))]) := hD
      refine lv_iinc (v := nI (i + 1)) (lv' := [(2, .int (nI (i + 1))), (3, .int 29), (0, .ref h1), (1, .int v)]) hx hb dJ7_fill_53178_14 hl (k := 0) rfl (nI_1 i) (by decide) rfl (fun ls hl => ?_)
      refine lv_goto (tgt := 5) hx hb dJ7_fill_53178_17 (by decide) ?_
      rw [show upd (cf_fill f v i) (nI i).toNatClampNeg v = cf_fill f v (i + 1) by rw [nI_clamp (by omega)]; exact cf_fill_s f v i] at hP hD
      exact ih H locs ls ⟨lv_sub hl [0, 1, 2, 3] rfl, hP, hD, hS⟩
  · intro H locs ls hI
    obtain ⟨hl, hP, hD, hS⟩ := hI
    refine lv_iload_n hx hb dJ7_fill_53178_5 rfl (lv_at hl 0 rfl) ?_
    refine lv_iload_n hx hb dJ7_fill_53178_6 rfl (lv_at hl 1 rfl) ?_
    refine lv_icmp_ge (tgt := 20) hx hb dJ7_fill_53178_7 (by decide) (fun c_2 => ?_) (fun c_2 => ?_)
    · skip
      exact cf_wrEndN hx hb hr hlocks hP hD hK hS rfl dJ7_fill_53178_20
    · skip
      exact absurd (show (29 : Int32) ≤ nI 29 by decide) c_2
set_option maxHeartbeats 4000000 in
set_option maxRecDepth 100000 in
theorem c_startOver (l : Launch) (D : va_G) (z : Nat → Nat) (h0 h1 : Nat) (cA : ClassId) (k : Nat → Int32) (md : Int32) (tm al : Int64) (ln od : Int32) (sz : Nat) : Met l yX0_startOver wsX0_startOver ({ frames := 1, cells := 0, slots := 0, locals := 23 } : Room) (cf_wr [.ref h0] D (cf_W 0 h0 h1 cA k md tm al ln od) [(cA, .int)] sz z) (va_Qv (fun u => u = cf_W 0 h0 h1 cA (cf_fill k 0 29) 1 0 9223372036854775807 0 0) (cf_B D [(cA, .int)] (va_A (cf_W 0 h0 h1 cA k md tm al ln od) sz)) (va_A (cf_W 0 h0 h1 cA k md tm al ln od) sz)) 0 0 (va_A (cf_W 0 h0 h1 cA k md tm al ln od) sz) := by
  refine Met.ofW (cc := cX0_startOver) (maxL := 1) (ret := none) (by decide) rfl ?_
  intro p e s m args below meth c s₁ B hml hv
  obtain ⟨rfl, hsz, hP, hK, hD0, hZ⟩ := hv
  have hx := B.exec
  have hb := B.bytes
  have hr := B.returns
  have hts := atoms_spec (ws := wsX0_startOver) B.pre
  have hown : s.vm.findClass RX0 = some m.cls := findClass_of_methodNamed B.named
  have hlocks := B.notSynchronized
  have hin0 : ∀ w ∈ wsX00, w ∈ wsX0_startOver := by decide +kernel
  subst hsz
  have hD := hD0.self (sz := s.heap.size)
  generalize hAe : va_A (cf_W 0 h0 h1 cA k md tm al ln od) s.heap.size = A at hD hZ ⊢
  have hA : ∀ q : Nat, s.heap.size ≤ q → A q := fun q h => by rw [← hAe]; exact Or.inr h
  have hS : va_S A s.heap s.heap [] := va_S.rf
  have hl := lv_entry ([.ref h0]) (n := 1) (Nat.le_of_ble_eq_true rfl)
  rw [lg_entry_eq]
  generalize (lg_sl ([.ref h0]) ++ List.replicate (1 - (lg_sl ([.ref h0])).length) Slot.unset).toArray = ls at hl ⊢
  have hl : lv_has ls 1 [(0, .ref h0)] := hl
  refine lv_aload_n hx hb dX0_startOver_0 rfl (lv_at hl 0 rfl) ?_
  refine va_get (D := D) (ci := 0) (v := .ref h1) (C := RX0) (T := TX0) (N := 6) hx hb hts hin0 hown hK hP 0 rfl rfl 0 (by decide) (hts (.fieldLink RX0 9 "ControlFile" "kept" "[I") (by decide +kernel)) (fun _ h9 => h9) rfl dX0_startOver_1 ?_
  refine lv_iconst (v := 0) hx hb dX0_startOver_4 (by decide) ?_
  refine cf_wcallSN (As := [.ref h1, .int 0]) (rest := []) (wc := [(h1, .inl (cA, 29, .inl k))]) (wr := [(h0, .inr (0, [.ref h1, .int md, .long tm, .long al, .int ln, .int od]))]) (wF := [(h1, .inl (cA, 29, .inl (cf_fill k 0 29)))]) ⟨hx, hb, hml, hown, hts⟩ (c_fill l D z h1 cA k 0 s.heap.size) (va_cwS 2 hts gX0_startOver_J7_fill_53178 rfl rfl rfl (by decide +kernel) ⟨Nat.le_of_ble_eq_true rfl, Nat.le_of_ble_eq_true rfl⟩) hP hD hK hZ hS hA (hP.sub [1] rfl) [1] [0] rfl rfl rfl rfl (by decide) rfl hl.1 rfl (Nat.le_of_ble_eq_true rfl) dX0_startOver_5 ⟨Nat.zero_le _, Nat.zero_le _⟩ (fun H locs hP hD hS => ?_)
  have hP : va_P D vwCl (cf_W 0 h0 h1 cA (cf_fill k 0 29) md tm al ln od) H := hP
  have hD : va_D A (cf_W 0 h0 h1 cA (cf_fill k 0 29) md tm al ln od) := hD
  refine lv_aload_n hx hb dX0_startOver_8 rfl (lv_at hl 0 rfl) ?_
  refine lv_iconst (v := 1) hx hb dX0_startOver_9 (by decide) ?_
  refine va_put (D := D) (ci := 0) (v := .int 1) (ty := .int) (C := RX0) (T := TX0) (N := 6) hx hb hts hin0 tyX0 tyX0_ok nmX0 hown hK hP hD hS 0 rfl rfl 1 (by decide) (hts (.fieldLink RX0 16 "ControlFile" "modeNow" "I") (by decide +kernel)) (fun _ h9 => h9) rfl (by decide +kernel) rfl rfl (Nat.le_of_ble_eq_true rfl) dX0_startOver_10 (fun H locs hP hD hS => ?_)
  have hP : va_P D vwCl (cf_W 0 h0 h1 cA (cf_fill k 0 29) 1 tm al ln od) H := hP
  have hD : va_D A (cf_W 0 h0 h1 cA (cf_fill k 0 29) 1 tm al ln od) := hD
  refine lv_aload_n hx hb dX0_startOver_13 rfl (lv_at hl 0 rfl) ?_
  refine lv_lconst (v := 0) hx hb dX0_startOver_14 (by decide) ?_
  refine va_put (D := D) (ci := 0) (v := .long 0) (ty := .long) (C := RX0) (T := TX0) (N := 6) hx hb hts hin0 tyX0 tyX0_ok nmX0 hown hK hP hD hS 0 rfl rfl 2 (by decide) (hts (.fieldLink RX0 22 "ControlFile" "timeNow" "J") (by decide +kernel)) (fun _ h9 => h9) rfl (by decide +kernel) rfl rfl (Nat.le_of_ble_eq_true rfl) dX0_startOver_15 (fun H locs hP hD hS => ?_)
  have hP : va_P D vwCl (cf_W 0 h0 h1 cA (cf_fill k 0 29) 1 0 al ln od) H := hP
  have hD : va_D A (cf_W 0 h0 h1 cA (cf_fill k 0 29) 1 0 al ln od) := hD
  refine lv_aload_n hx hb dX0_startOver_18 rfl (lv_at hl 0 rfl) ?_
  refine lv_ldc2 (own := RX0) (v := 9223372036854775807) hx hb hown (hts (.constantLong RX0 29 9223372036854775807) (by decide +kernel)) dX0_startOver_19 ?_
  refine va_put (D := D) (ci := 0) (v := .long 9223372036854775807) (ty := .long) (C := RX0) (T := TX0) (N := 6) hx hb hts hin0 tyX0 tyX0_ok nmX0 hown hK hP hD hS 0 rfl rfl 3 (by decide) (hts (.fieldLink RX0 26 "ControlFile" "alarmAt" "J") (by decide +kernel)) (fun _ h9 => h9) rfl (by decide +kernel) rfl rfl (Nat.le_of_ble_eq_true rfl) dX0_startOver_22 (fun H locs hP hD hS => ?_)
  have hP : va_P D vwCl (cf_W 0 h0 h1 cA (cf_fill k 0 29) 1 0 9223372036854775807 ln od) H := hP
  have hD : va_D A (cf_W 0 h0 h1 cA (cf_fill k 0 29) 1 0 9223372036854775807 ln od) := hD
  refine lv_aload_n hx hb dX0_startOver_25 rfl (lv_at hl 0 rfl) ?_
  refine lv_iconst (v := 0) hx hb dX0_startOver_26 (by decide) ?_
  refine va_put (D := D) (ci := 0) (v := .int 0) (ty := .boolean) (C := RX0) (T := TX0) (N := 6) hx hb hts hin0 tyX0 tyX0_ok nmX0 hown hK hP hD hS 0 rfl rfl 4 (by decide) (hts (.fieldLink RX0 31 "ControlFile" "lineOn" "Z") (by decide +kernel)) (fun _ h9 => h9) rfl (by decide +kernel) rfl rfl (Nat.le_of_ble_eq_true rfl) dX0_startOver_27 (fun H locs hP hD hS => ?_)
  have hP : va_P D vwCl (cf_W 0 h0 h1 cA (cf_fill k 0 29) 1 0 9223372036854775807 0 od) H := hP
  have hD : va_D A (cf_W 0 h0 h1 cA (cf_fill k 0 29) 1 0 9223372036854775807 0 od) := hD
  refine lv_aload_n hx hb dX0_startOver_30 rfl (lv_at hl 0 rfl) ?_
  refine lv_iconst (v := 0) hx hb dX0_startOver_31 (by decide) ?_
  refine va_put (D := D) (ci := 0) (v := .int 0) (ty := .int) (C := RX0) (T := TX0) (N := 6) hx hb hts hin0 tyX0 tyX0_ok nmX0 hown hK hP hD hS 0 rfl rfl 5 (by decide) (hts (.fieldLink RX0 58 "ControlFile" "oldValue" "I") (by decide +kernel)) (fun _ h9 => h9) rfl (by decide +kernel) rfl rfl (Nat.le_of_ble_eq_true rfl) dX0_startOver_32 (fun H locs hP hD hS => ?_)
  have hP : va_P D vwCl (cf_W 0 h0 h1 cA (cf_fill k 0 29) 1 0 9223372036854775807 0 0) H := hP
  have hD : va_D A (cf_W 0 h0 h1 cA (cf_fill k 0 29) 1 0 9223372036854775807 0 0) := hD
  exact cf_wrEndN hx hb hr hlocks hP hD hK hS (rfl) dX0_startOver_35
set_option maxHeartbeats 4000000 in
set_option maxRecDepth 100000 in
theorem c_begin (l : Launch) (D : va_G) (z : Nat → Nat) (h0 h1 : Nat) (cA : ClassId) (k : Nat → Int32) (md : Int32) (tm al : Int64) (ln od : Int32) (sz : Nat) : Met l yX0_begin wsX0_begin ({ frames := 2, cells := 0, slots := 0, locals := 43 } : Room) (cf_wr [.ref h0] D (cf_W 0 h0 h1 cA k md tm al ln od) [(cA, .int)] sz z) (va_Qv (fun u => u = cf_W 0 h0 h1 cA (cf_fill k 0 29) 1 0 9223372036854775807 0 0) (cf_B D [(cA, .int)] (va_A (cf_W 0 h0 h1 cA k md tm al ln od) sz)) (va_A (cf_W 0 h0 h1 cA k md tm al ln od) sz)) 0 0 (va_A (cf_W 0 h0 h1 cA k md tm al ln od) sz) := by
  refine Met.ofW (cc := cX0_begin) (maxL := 1) (ret := none) (by decide) rfl ?_
  intro p e s m args below meth c s₁ B hml hv
  obtain ⟨rfl, hsz, hP, hK, hD0, hZ⟩ := hv
  have hx := B.exec
  have hb := B.bytes
  have hr := B.returns
  have hts := atoms_spec (ws := wsX0_begin) B.pre
  have hown : s.vm.findClass RX0 = some m.cls := findClass_of_methodNamed B.named
  have hlocks := B.notSynchronized
  subst hsz
  have hD := hD0.self (sz := s.heap.size)
  generalize hAe : va_A (cf_W 0 h0 h1 cA k md tm al ln od) s.heap.size = A at hD hZ ⊢
  have hA : ∀ q : Nat, s.heap.size ≤ q → A q := fun q h => by rw [← hAe]; exact Or.inr h
  have hS : va_S A s.heap s.heap [] := va_S.rf
  have hl := lv_entry ([.ref h0]) (n := 1) (Nat.le_of_ble_eq_true rfl)
  rw [lg_entry_eq]
  generalize (lg_sl ([.ref h0]) ++ List.replicate (1 - (lg_sl ([.ref h0])).length) Slot.unset).toArray = ls at hl ⊢
  have hl : lv_has ls 1 [(0, .ref h0)] := hl
  refine lv_aload_n hx hb dX0_begin_0 rfl (lv_at hl 0 rfl) ?_
  refine cf_wcallN (As := []) (rest := []) (wc := cf_W 0 h0 h1 cA k md tm al ln od) (wr := []) (wF := cf_W 0 h0 h1 cA (cf_fill k 0 29) 1 0 9223372036854775807 0 0) ⟨hx, hb, hml, hown, hts⟩ (c_startOver l D z h0 h1 cA k md tm al ln od s.heap.size) (cwV 0 hts gX0_begin_X0_startOver rfl rfl rfl (by decide +kernel) ⟨Nat.le_of_ble_eq_true rfl, Nat.le_of_ble_eq_true rfl⟩) hP hD hK hZ hS hA hP [0, 1] [] rfl rfl rfl rfl (by decide) (ci := 0) (q0 := 0) rfl rfl rfl rfl hl.1 rfl (Nat.le_of_ble_eq_true rfl) dX0_begin_1 ⟨Nat.zero_le _, Nat.zero_le _⟩ (fun H locs hP hD hS => ?_)
  have hP : va_P D vwCl (cf_W 0 h0 h1 cA (cf_fill k 0 29) 1 0 9223372036854775807 0 0) H := hP
  have hD : va_D A (cf_W 0 h0 h1 cA (cf_fill k 0 29) 1 0 9223372036854775807 0 0) := hD
  exact cf_wrEndN hx hb hr hlocks hP hD hK hS (rfl) dX0_begin_4
