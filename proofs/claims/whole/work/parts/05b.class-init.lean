set_option maxHeartbeats 4000000 in
set_option maxRecDepth 100000 in
theorem c_init (l : Launch) (D : va_G) (z : Nat → Nat) (h0 : Nat) (sz : Nat) : Met l yX0_init wsX0_init ({ frames := 2, cells := 1, slots := 29, locals := 43 } : Room) (cf_wr [.ref h0] D [(h0, .inr (0, [.null, .int 0, .long 0, .long 0, .int 0, .int 0]))] [] sz z) (va_Qv (fun _ : Nat × ClassId => True) (fun u t => cf_B D [(u.2, .int)] (va_A [(h0, .inr (0, [.null, .int 0, .long 0, .long 0, .int 0, .int 0]))] sz) (cf_W 0 h0 u.1 u.2 (cf_fill (fun _ => 0) 0 29) 1 0 9223372036854775807 0 0) t) (va_A [(h0, .inr (0, [.null, .int 0, .long 0, .long 0, .int 0, .int 0]))] sz)) 1 29 (va_A [(h0, .inr (0, [.null, .int 0, .long 0, .long 0, .int 0, .int 0]))] sz) := by
  refine Met.ofW (cc := cX0_init) (maxL := 1) (ret := none) (by decide) rfl ?_
  intro p e s m args below meth c s₁ B hml hv
  obtain ⟨rfl, hsz, hP, hK, hD0, hZ⟩ := hv
  have hx := B.exec
  have hb := B.bytes
  have hr := B.returns
  have hts := atoms_spec (ws := wsX0_init) B.pre
  have hown : s.vm.findClass RX0 = some m.cls := findClass_of_methodNamed B.named
  have hlocks := B.notSynchronized
  have hin : meth.name = "<init>" := (name_of_methodNamed B.named B.method).1
  have hin0 : ∀ w ∈ wsX00, w ∈ wsX0_init := by decide +kernel
  subst hsz
  have hD := hD0.self (sz := s.heap.size)
  generalize hAe : va_A [(h0, .inr (0, [.null, .int 0, .long 0, .long 0, .int 0, .int 0]))] s.heap.size = A at hD hZ ⊢
  have hA : ∀ q : Nat, s.heap.size ≤ q → A q := fun q h => by rw [← hAe]; exact Or.inr h
  have hS : va_S A s.heap s.heap [] := va_S.rf
  have hl := lv_entry ([.ref h0]) (n := 1) (Nat.le_of_ble_eq_true rfl)
  rw [lg_entry_eq]
  generalize (lg_sl ([.ref h0]) ++ List.replicate (1 - (lg_sl ([.ref h0])).length) Slot.unset).toArray = ls at hl ⊢
  have hl : lv_has ls 1 [(0, .ref h0)] := hl
  refine lv_aload_n hx hb dX0_init_0 rfl (lv_at hl 0 rfl) ?_
  refine W.objInit hx hb hown (hts (.methodLink RX0 3 objectInit) (by decide +kernel)) (hts (.instanceMethod objectInit) (by decide +kernel)) (hts (.code objectInit ⟨#[0xb1]⟩ 1 none) (by decide +kernel)) rfl (by rw [hml]; exact hl.1) rfl dX0_init_1 (Nat.le_of_ble_eq_true rfl) (Nat.le_of_ble_eq_true rfl) ?_
  refine W.eq (g2 := F0 m 4 ls []) rfl ?_
  refine lv_aload_n hx hb dX0_init_4 rfl (lv_at hl 0 rfl) ?_
  refine lv_bipush (v := 29) hx hb dX0_init_5 (by decide) ?_
  refine va_newa (atype := .int) (n := 29) (ty := .int) (N' := 29) (a0 := (29, .inl (fun _ => 0))) hx hb (hts (.arrayClass .int) (by decide +kernel)) rfl hK hP hD hS hA (fun _ => rfl) (by decide) (by decide) (by decide) (Nat.le_of_ble_eq_true rfl) (Nat.le_of_ble_eq_true rfl) dX0_init_7 (fun h1 cA H hK hP hD hS => ?_)
  have hK : va_K D vwCl [(cA, .int)] s := hK
  have hP : va_P D vwCl [(h0, .inr (0, [.null, .int 0, .long 0, .long 0, .int 0, .int 0])), (h1, .inl (cA, 29, .inl (fun _ => 0)))] H := hP
  have hD : va_D A [(h0, .inr (0, [.null, .int 0, .long 0, .long 0, .int 0, .int 0])), (h1, .inl (cA, 29, .inl (fun _ => 0)))] := hD
  refine W.widen (k := 1) (n := 29) (by omega) (by omega) ?_
  refine va_putF (D := D) (ci := 0) (v := .ref h1) (ty := .array .int) (C := RX0) (T := TX0) (N := 6) hx hb hts hin0 tyX0 tyX0_ok nmX0 hown hK hP hD hS 0 rfl rfl 0 (by decide) (hts (.fieldLink RX0 9 "ControlFile" "kept" "[I") (by decide +kernel)) (fun _ h9 => h9) rfl hin rfl (by decide +kernel) rfl rfl (Nat.le_of_ble_eq_true rfl) dX0_init_9 (fun H locs hP hD hS => ?_)
  have hP : va_P D vwCl (cf_W 0 h0 h1 cA (fun _ => 0) 0 0 0 0 0) H := hP
  have hD : va_D A (cf_W 0 h0 h1 cA (fun _ => 0) 0 0 0 0 0) := hD
  refine lv_aload_n hx hb dX0_init_12 rfl (lv_at hl 0 rfl) ?_
  refine cf_wcallN (As := []) (rest := []) (wc := cf_W 0 h0 h1 cA (fun _ => 0) 0 0 0 0 0) (wr := []) (wF := (cf_W 0 h0 h1 cA (cf_fill (fun _ => 0) 0 29) 1 0 9223372036854775807 0 0)) ⟨hx, hb, hml, hown, hts⟩ (c_startOver l D z h0 h1 cA (fun _ => 0) 0 0 0 0 0 H.size) (cwV 0 hts gX0_init_X0_startOver rfl rfl rfl (by decide +kernel) ⟨Nat.le_of_ble_eq_true rfl, Nat.le_of_ble_eq_true rfl⟩) hP hD hK hZ hS hA hP [0, 1] [] rfl rfl rfl rfl (by decide) (ci := 0) (q0 := 0) rfl rfl rfl rfl hl.1 rfl (Nat.le_of_ble_eq_true rfl) dX0_init_13 ⟨Nat.le_of_ble_eq_true rfl, Nat.le_of_ble_eq_true rfl⟩ (fun H locs hP hD hS => ?_)
  have hP : va_P D vwCl (cf_W 0 h0 h1 cA (cf_fill (fun _ => 0) 0 29) 1 0 9223372036854775807 0 0) H := hP
  have hD : va_D A (cf_W 0 h0 h1 cA (cf_fill (fun _ => 0) 0 29) 1 0 9223372036854775807 0 0) := hD
  exact W.vret hx hb hr (fun t ht hW => ⟨⟨(h1, cA), rfl, trivial, by rw [ht]; exact hP, va_K.moved hW.alike hK, hD⟩, hS.F ht⟩) hS.2.2 dX0_init_16 hlocks
