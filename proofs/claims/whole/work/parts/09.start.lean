set_option maxHeartbeats 4000000 in
set_option maxRecDepth 100000 in
/-- THE LAW, from its entry -/
theorem whole_start {p : Program} {e : Env} {s : State} {m : MethodId} {below : List Frame} {meth : Method} {c : Code} (l : Launch) {b L : Nat} {xs : Nat → Int32} (hL : L ≤ 2048) (C0 : lw_At p s m meth c b L xs) : W p l e room_1 s m #[Value.ref b] below meth c s.heap [] 0 0 (lw_Z below #[Value.ref b] s) (entryFrame m ([Value.ref b] : List Value).toArray 4) := by
  obtain ⟨hx, hb, hr, hml, hown, hts0, hX, hbl, hlocks, hgv⟩ := id C0
  have hts : ∀ w ∈ wsL_law, w.before #[Value.ref b] s = true := fun w h => hts0 w (wsL_law_in w h)
  have hA : ∀ q : Nat, s.heap.size ≤ q → (fun q : Nat => s.heap.size ≤ q) q := fun _ h => h
  have hbA : ¬ (fun q : Nat => s.heap.size ≤ q) b := Nat.not_le.mpr hbl
  obtain ⟨c0, iS0, hKn0⟩ := u_known (C := RX0) (T := TX0) (N := 6) (n := 6) hts0 inX0 (hts0 (.instantiable RX0 6) (by decide +kernel))
  obtain ⟨c1, iS1, hKn1⟩ := u_known (C := RX1) (T := TX1) (N := 6) (n := 6) hts0 inX1 (hts0 (.instantiable RX1 6) (by decide +kernel))
  obtain ⟨D, hKc⟩ : ∃ D : va_G, ∀ (k : Nat) (q : vw_C), vwCl[k]? = some q → u_Kn s q.1 q.2.1 q.2.2 (D.1 k) (D.2 k) := by
    refine ⟨(fun k => if k = 0 then c0 else c1, fun k => if k = 0 then iS0 else iS1), ?_⟩
    intro k q hq
    match k, hq with
    | 0, hq => cases hq; exact hKn0
    | 1, hq => cases hq; exact hKn1
    | k + 2, hq => simp [vwCl] at hq
  have hs := flat_of_before _ hgv
  have hA0 : ∀ a : Nat, a < s.heap.size → ¬ (fun q : Nat => s.heap.size ≤ q) a := fun a h => Nat.not_le.mpr h
  have m0 : ∀ j, j < 29 → Cond.eq (.elem (.static "ControlFile" "NUMBERS" "[I") (.int (Int32.ofNat j))) (.int (cf_num j)) ∈ flatC (Jvm.Cond.and given_1 narrow_1) := by decide +kernel
  obtain ⟨t0, e0, T0⟩ := va_Tof (tm := (.static "ControlFile" "NUMBERS" "[I")) (ty := .int) (N := 29) (f := fun j => .int (cf_num j)) (A := (fun q : Nat => s.heap.size ≤ q)) (by decide) (hs (.arrayOf (.static "ControlFile" "NUMBERS" "[I") .int) (by decide +kernel)) (va_eqt (z := 29) (hs (.eq (.length (.static "ControlFile" "NUMBERS" "[I")) (.int 29)) (by decide +kernel))) (fun j hj => va_eqt (hs _ (m0 j hj))) hA0
  have Z0 := va_Zref (hts0 (.laysStatic "ControlFile" "NUMBERS" "[I") (by decide +kernel)) (hts0 (.initialized "ControlFile") (by decide +kernel)) e0 hA0
  have m1 : ∀ j, j < 29 → Cond.eq (.elem (.static "ControlFile" "KEEPS" "[I") (.int (Int32.ofNat j))) (.int (cf_keep j)) ∈ flatC (Jvm.Cond.and given_1 narrow_1) := by decide +kernel
  obtain ⟨t1, e1, T1⟩ := va_Tof (tm := (.static "ControlFile" "KEEPS" "[I")) (ty := .int) (N := 29) (f := fun j => .int (cf_keep j)) (A := (fun q : Nat => s.heap.size ≤ q)) (by decide) (hs (.arrayOf (.static "ControlFile" "KEEPS" "[I") .int) (by decide +kernel)) (va_eqt (z := 29) (hs (.eq (.length (.static "ControlFile" "KEEPS" "[I")) (.int 29)) (by decide +kernel))) (fun j hj => va_eqt (hs _ (m1 j hj))) hA0
  have Z1 := va_Zref (hts0 (.laysStatic "ControlFile" "KEEPS" "[I") (by decide +kernel)) (hts0 (.initialized "ControlFile") (by decide +kernel)) e1 hA0
  have m2 : ∀ j, j < 6 → Cond.eq (.elem (.static "ControlFile" "S_ORDER" "[I") (.int (Int32.ofNat j))) (.int (cf_so j)) ∈ flatC (Jvm.Cond.and given_1 narrow_1) := by decide +kernel
  obtain ⟨t2, e2, T2⟩ := va_Tof (tm := (.static "ControlFile" "S_ORDER" "[I")) (ty := .int) (N := 6) (f := fun j => .int (cf_so j)) (A := (fun q : Nat => s.heap.size ≤ q)) (by decide) (hs (.arrayOf (.static "ControlFile" "S_ORDER" "[I") .int) (by decide +kernel)) (va_eqt (z := 6) (hs (.eq (.length (.static "ControlFile" "S_ORDER" "[I")) (.int 6)) (by decide +kernel))) (fun j hj => va_eqt (hs _ (m2 j hj))) hA0
  have Z2 := va_Zref (hts0 (.laysStatic "ControlFile" "S_ORDER" "[I") (by decide +kernel)) (hts0 (.initialized "ControlFile") (by decide +kernel)) e2 hA0
  have m3 : ∀ j, j < 3 → Cond.eq (.elem (.static "ControlFile" "VS_ORDER" "[I") (.int (Int32.ofNat j))) (.int (cf_vo j)) ∈ flatC (Jvm.Cond.and given_1 narrow_1) := by decide +kernel
  obtain ⟨t3, e3, T3⟩ := va_Tof (tm := (.static "ControlFile" "VS_ORDER" "[I")) (ty := .int) (N := 3) (f := fun j => .int (cf_vo j)) (A := (fun q : Nat => s.heap.size ≤ q)) (by decide) (hs (.arrayOf (.static "ControlFile" "VS_ORDER" "[I") .int) (by decide +kernel)) (va_eqt (z := 3) (hs (.eq (.length (.static "ControlFile" "VS_ORDER" "[I")) (.int 3)) (by decide +kernel))) (fun j hj => va_eqt (hs _ (m3 j hj))) hA0
  have Z3 := va_Zref (hts0 (.laysStatic "ControlFile" "VS_ORDER" "[I") (by decide +kernel)) (hts0 (.initialized "ControlFile") (by decide +kernel)) e3 hA0
  obtain ⟨z, hZ⟩ : ∃ z : Nat → Nat, cf_stat (fun q : Nat => s.heap.size ≤ q) z s s.heap := ⟨fun j => if j = 0 then t0 else if j = 1 then t1 else if j = 2 then t2 else t3, ⟨Z0, T0⟩, ⟨Z1, T1⟩, ⟨Z2, T2⟩, ⟨Z3, T3⟩⟩
  have hS : va_S (fun q : Nat => s.heap.size ≤ q) s.heap s.heap [] := va_S.rf
  have hK : va_K D vwCl [] s := ⟨hKc, fun k q h => by simp at h⟩
  have hP : va_P D vwCl [] s.heap := fun k q h => by simp at h
  have hD : va_D (fun q : Nat => s.heap.size ≤ q) [] := ⟨fun i j p q h => by simp at h, fun k q h => by simp at h⟩
  have hl := lv_entry ([.ref b]) (n := 4) (Nat.le_of_ble_eq_true rfl)
  rw [lg_entry_eq]
  generalize (lg_sl ([.ref b]) ++ List.replicate (4 - (lg_sl ([.ref b])).length) Slot.unset).toArray = ls at hl ⊢
  have hl : lv_has ls 4 [(0, .ref b)] := hl
  refine va_new (ci := 0) (fs := [.null, .int 0, .long 0, .long 0, .int 0, .int 0]) (C := RX0) (T := TX0) (N := 6) hx hb hts0 inX0 tyX0 tyX0_ok hown (hts0 (.classLink RL 7 RX0) (by decide +kernel)) (hts0 (.instantiable RX0 6) (by decide +kernel)) (hts0 (.initialized RX0) (by decide +kernel)) hK hP hD hS hA rfl (fun j hj => by rcases (show j = 0 ∨ j = 1 ∨ j = 2 ∨ j = 3 ∨ j = 4 ∨ j = 5 by omega) with rfl | rfl | rfl | rfl | rfl | rfl <;> rfl) (Nat.le_of_ble_eq_true rfl) (Nat.le_of_ble_eq_true rfl) dL_law_0 (fun q0 H hP hD hS => ?_)
  have hP : va_P D vwCl ([(q0, .inr (0, [.null, .int 0, .long 0, .long 0, .int 0, .int 0]))]) H := hP
  have hD : va_D (fun q : Nat => s.heap.size ≤ q) ([(q0, .inr (0, [.null, .int 0, .long 0, .long 0, .int 0, .int 0]))]) := hD
  refine W.widen (k := 1) (n := 6) (by omega) (by omega) ?_
  refine lv_dup hx hb dL_law_3 rfl ?_
  refine cf_icall (WN := fun u => cf_W 0 q0 u.1 u.2 (cf_fill (fun _ => 0) 0 29) 1 0 9223372036854775807 0 0) (As := []) (rest := [.ref q0]) (wc := [(q0, .inr (0, [.null, .int 0, .long 0, .long 0, .int 0, .int 0]))]) (wr := []) ⟨hx, hb, hml, hown, hts⟩ (c_init l D z q0 H.size) (cwI 0 hts gL_law_X0_init rfl rfl rfl (hts0 (.initialized RX0) (by decide +kernel)) (hts0 (.methodLink RL 9 yX0_init) (by decide +kernel)) (hts0 (.instanceMethod yX0_init) (by decide +kernel)) rfl (by decide +kernel) ⟨(Nat.le_of_ble_eq_true rfl), (Nat.le_of_ble_eq_true rfl)⟩) hP hD hK hZ hS hA (hP.sub [0] rfl) [0] [] rfl rfl rfl rfl (by decide) rfl hl.1 rfl (Nat.le_of_ble_eq_true rfl) dL_law_4 ⟨(Nat.le_of_ble_eq_true rfl), (Nat.le_of_ble_eq_true rfl)⟩ (fun q1 cA H locs hP hD hK hS => ?_)
  refine W.widen (k := 2) (n := 35) (by omega) (by omega) ?_
  have hP : va_P D vwCl (cf_W 0 q0 q1 cA (cf_fill (fun _ => 0) 0 29) 1 0 9223372036854775807 0 0) H := hP
  have hD : va_D (fun q : Nat => s.heap.size ≤ q) (cf_W 0 q0 q1 cA (cf_fill (fun _ => 0) 0 29) 1 0 9223372036854775807 0 0) := hD
  have hK : va_K D vwCl [(cA, .int)] s := hK
  refine lv_astore_n (lv' := [(1, .ref q0), (0, .ref b)]) hx hb dL_law_7 rfl hl (by decide) rfl (fun ls hl => ?_)
  refine va_new (ci := 1) (fs := [.null, .int 0, .long 0, .long 0, .int 0, .int 0]) (C := RX1) (T := TX1) (N := 6) hx hb hts0 inX1 tyX1 tyX1_ok hown (hts0 (.classLink RL 10 RX1) (by decide +kernel)) (hts0 (.instantiable RX1 6) (by decide +kernel)) (hts0 (.initialized RX1) (by decide +kernel)) hK hP hD hS hA rfl (fun j hj => by rcases (show j = 0 ∨ j = 1 ∨ j = 2 ∨ j = 3 ∨ j = 4 ∨ j = 5 by omega) with rfl | rfl | rfl | rfl | rfl | rfl <;> rfl) (Nat.le_of_ble_eq_true rfl) (Nat.le_of_ble_eq_true rfl) dL_law_8 (fun r0 H hP hD hS => ?_)
  have hP : va_P D vwCl (cf_W 0 q0 q1 cA (cf_fill (fun _ => 0) 0 29) 1 0 9223372036854775807 0 0 ++ [(r0, .inr (1, [.null, .int 0, .long 0, .long 0, .int 0, .int 0]))]) H := hP
  have hD : va_D (fun q : Nat => s.heap.size ≤ q) (cf_W 0 q0 q1 cA (cf_fill (fun _ => 0) 0 29) 1 0 9223372036854775807 0 0 ++ [(r0, .inr (1, [.null, .int 0, .long 0, .long 0, .int 0, .int 0]))]) := hD
  refine W.widen (k := 3) (n := 41) (by omega) (by omega) ?_
  refine lv_dup hx hb dL_law_11 rfl ?_
  refine cf_icall (WN := fun u => cf_W 1 r0 u.1 u.2 (cf_fill (fun _ => 0) 0 29) 1 0 9223372036854775807 0 0) (As := []) (rest := [.ref r0]) (wc := [(r0, .inr (1, [.null, .int 0, .long 0, .long 0, .int 0, .int 0]))]) (wr := (cf_W 0 q0 q1 cA (cf_fill (fun _ => 0) 0 29) 1 0 9223372036854775807 0 0)) ⟨hx, hb, hml, hown, hts⟩ (m_init l D z r0 H.size) (cwI 0 hts gL_law_X1_init rfl rfl rfl (hts0 (.initialized RX1) (by decide +kernel)) (hts0 (.methodLink RL 12 yX1_init) (by decide +kernel)) (hts0 (.instanceMethod yX1_init) (by decide +kernel)) rfl (by decide +kernel) ⟨(Nat.le_of_ble_eq_true rfl), (Nat.le_of_ble_eq_true rfl)⟩) hP hD hK hZ hS hA (hP.sub [2] rfl) [2] [0, 1] rfl rfl rfl rfl (by decide) rfl hl.1 rfl (Nat.le_of_ble_eq_true rfl) dL_law_12 ⟨(Nat.le_of_ble_eq_true rfl), (Nat.le_of_ble_eq_true rfl)⟩ (fun r1 cB H locs hP hD hK hS => ?_)
  refine W.widen (k := 4) (n := 70) (by omega) (by omega) ?_
  have hP : va_P D vwCl (cf_L q0 q1 cA r0 r1 cB (cf_fill (fun _ => 0) 0 29) 1 0 9223372036854775807 0 0) H := hP
  have hD : va_D (fun q : Nat => s.heap.size ≤ q) (cf_L q0 q1 cA r0 r1 cB (cf_fill (fun _ => 0) 0 29) 1 0 9223372036854775807 0 0) := hD
  have hK : va_K D vwCl [(cA, .int), (cB, .int)] s := hK
  refine lv_astore_n (lv' := [(2, .ref r0), (1, .ref q0), (0, .ref b)]) hx hb dL_law_15 rfl hl (by decide) rfl (fun ls hl => ?_)
  refine lv_iconst (v := 0) hx hb dL_law_16 (by decide) ?_
  refine lv_istore_n (lv' := [(3, .int 0), (2, .ref r0), (1, .ref q0), (0, .ref b)]) hx hb dL_law_17 rfl hl (by decide) rfl (fun ls hl => ?_)
  exact law_loop hL C0 q0 q1 r0 r1 cA cB hK hZ (L + 1) 0 (Nat.zero_le L) (by omega) (cf_fill (fun _ => 0) 0 29) 1 0 9223372036854775807 0 0 H locs (cf_inv_fill _) (Or.inl rfl) hP hD hS ls (lv_sub hl [3, 2, 1, 0] rfl)
