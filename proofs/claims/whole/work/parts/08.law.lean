theorem mx_access (l : Launch) (D : va_G) (z : Nat → Nat) (h0 h1 : Nat) (cA : ClassId) (k : Nat → Int32) (md : Int32) (tm al : Int64) (ln od : Int32) (sz : Nat) (n : Int32) (kd : Int32) (v : Int32) (hi : cf_inv k) : Met l yX1_access wsX1_access ({ frames := 2, cells := 0, slots := 0, locals := 46 } : Room) (cf_wr [.ref h0, .int n, .int kd, .int v] D (cf_W 1 h0 h1 cA k md tm al ln od) [(cA, .int)] sz z) (va_Qi (fun r u => r = cf_accR k md n kd ∧ u = cf_W 1 h0 h1 cA (cf_accK k md tm al ln n kd v) md tm al ln (cf_accO k md tm al ln od n kd)) (cf_B D [(cA, .int)] (va_A (cf_W 1 h0 h1 cA k md tm al ln od) sz)) (va_A (cf_W 1 h0 h1 cA k md tm al ln od) sz)) 0 0 (va_A (cf_W 1 h0 h1 cA k md tm al ln od) sz) := by
  have h := m_access l D z h0 h1 cA k md tm al ln od sz n kd v
  rw [cf_accR_eq, cf_accO_eq hi, (cf_accK_eq hi md tm al ln n kd v).1] at h
  exact h
theorem mx_control (l : Launch) (D : va_G) (z : Nat → Nat) (h0 h1 : Nat) (cA : ClassId) (k : Nat → Int32) (md : Int32) (tm al : Int64) (ln od : Int32) (n : Int32) (hi : cf_inv k) : Met l yX1_control wsX1_control ({ frames := 2, cells := 0, slots := 0, locals := 42 } : Room) (cf_ro [.ref h0, .int n] D (cf_W 1 h0 h1 cA k md tm al ln od) [(cA, .int)] z) (vp_Si (fun r => r = cf_told k tm al ln (cf_slot n))) 0 0 (fun _ => False) := by
  have h := m_control l D z h0 h1 cA k md tm al ln od n
  rw [cf_ctl_eq hi] at h
  exact h
theorem mx_used (l : Launch) (D : va_G) (z : Nat → Nat) (h0 h1 : Nat) (cA : ClassId) (k : Nat → Int32) (md : Int32) (tm al : Int64) (ln od : Int32) (hi : cf_inv k) : Met l yX1_used wsX1_used ({ frames := 1, cells := 0, slots := 0, locals := 21 } : Room) (cf_ro [.ref h0] D (cf_W 1 h0 h1 cA k md tm al ln od) [(cA, .int)] z) (vp_Si (fun r => r = cf_used k tm al ln)) 0 0 (fun _ => False) := by
  have h := m_used l D z h0 h1 cA k md tm al ln od
  rw [cf_used_eq hi] at h
  exact h
theorem mx_due (l : Launch) (D : va_G) (z : Nat → Nat) (h0 h1 : Nat) (cA : ClassId) (k : Nat → Int32) (md : Int32) (tm al : Int64) (ln od : Int32) (hi : cf_inv k) : Met l yX1_due wsX1_due ({ frames := 1, cells := 0, slots := 0, locals := 23 } : Room) (cf_ro [.ref h0] D (cf_W 1 h0 h1 cA k md tm al ln od) [(cA, .int)] z) (vp_Si (fun r => r = cf_due k md tm al ln)) 0 0 (fun _ => False) := by
  have h := m_due l D z h0 h1 cA k md tm al ln od
  rw [cf_due_eq hi] at h
  exact h
set_option maxHeartbeats 4000000 in
set_option maxRecDepth 100000 in
theorem law_loop {p : Program} {l : Launch} {e : Env} {s : State} {m : MethodId} {below : List Frame} {meth : Method} {c : Code} {D : va_G} {z : Nat → Nat} {b L : Nat} {xs : Nat → Int32} (hL : L ≤ 2048) (C0 : lw_At p s m meth c b L xs) (q0 q1 r0 r1 : Nat) (cA cB : ClassId) (hK : va_K D vwCl [(cA, .int), (cB, .int)] s) (hZ : cf_stat (fun q : Nat => s.heap.size ≤ q) z s s.heap) :
    ∀ (n i : Nat), i ≤ L → L + 1 ≤ i + n → ∀ (k : Nat → Int32) (md : Int32) (tm al : Int64) (ln od : Int32) (H : Heap) (locs : List Loc), cf_inv k → (ln = 0 ∨ ln = 1) → va_P D vwCl (cf_L q0 q1 cA r0 r1 cB k md tm al ln od) H → va_D (fun q : Nat => s.heap.size ≤ q) (cf_L q0 q1 cA r0 r1 cB k md tm al ln od) → va_S (fun q : Nat => s.heap.size ≤ q) s.heap H locs → ∀ (ls : Array Slot), lv_has ls 4 [(0, .ref b), (1, .ref q0), (2, .ref r0), (3, .int (nI i))] → W p l e room_1 s m #[Value.ref b] below meth c H locs 4 70 (lw_Z below #[Value.ref b] s) (F0 m 18 ls []) := by
  obtain ⟨hx, hb, hr, hml, hown, hts0, hX, hbl, hlocks, hgv⟩ := C0
  have hts : ∀ w ∈ wsL_law, w.before #[Value.ref b] s = true := fun w h => hts0 w (wsL_law_in w h)
  have hA : ∀ q : Nat, s.heap.size ≤ q → (fun q : Nat => s.heap.size ≤ q) q := fun _ h => h
  have hbA : ¬ (fun q : Nat => s.heap.size ≤ q) b := Nat.not_le.mpr hbl
  intro n
  induction n with
  | zero =>
    intro i h1 h2
    exact absurd h2 (by omega)
  | succ n ih =>
    intro i hiL hin k md tm al ln od H locs hi hln hP hD hS ls hl
    refine lv_iload_n hx hb dL_law_18 rfl (lv_at hl 3 rfl) ?_
    refine lv_aload_n hx hb dL_law_19 rfl (lv_at hl 0 rfl) ?_
    refine va_slen hx hb hX hbl hbA hS dL_law_20 ?_
    refine lv_iconst (v := 4) hx hb dL_law_21 (by decide) ?_
    refine lv_isub hx hb dL_law_22 ?_
    refine lv_icmp_gt (tgt := 380) hx hb dL_law_23 (by decide) (fun c_1 => ?_) (fun c_1 => ?_)
    · skip
      refine lv_iconst (v := 1) hx hb dL_law_380 (by decide) ?_
      refine va_forget (fun q hq => hS.2.2 q hq) ?_
      exact lw_ret hx hb hr hlocks dL_law_381
    · skip
      have hi4 : i + 4 ≤ L := by
        have q : ¬ nI L - nI 4 < nI i := c_1
        rw [Int32.lt_iff_toInt_lt, pk_sub_toInt (by omega) (by omega), nI_toInt (by omega)] at q
        omega
      have v0 : vp_in (nI i) L := vp_in_nI (by omega) (by omega)
      have v1 : vp_in (nI i + 1) L := by show vp_in (nI i + nI 1) L; rw [nI_add]; exact vp_in_nI (by omega) (by omega)
      have v2 : vp_in (nI i + 2) L := by show vp_in (nI i + nI 2) L; rw [nI_add]; exact vp_in_nI (by omega) (by omega)
      have v3 : vp_in (nI i + 3) L := by show vp_in (nI i + nI 3) L; rw [nI_add]; exact vp_in_nI (by omega) (by omega)
      have nxt : ∀ (k' : Nat → Int32) (md' : Int32) (tm' al' : Int64) (ln' od' : Int32) (H : Heap) (locs : List Loc), cf_inv k' → (ln' = 0 ∨ ln' = 1) → va_P D vwCl (cf_L q0 q1 cA r0 r1 cB k' md' tm' al' ln' od') H → va_D (fun q : Nat => s.heap.size ≤ q) (cf_L q0 q1 cA r0 r1 cB k' md' tm' al' ln' od') → va_S (fun q : Nat => s.heap.size ≤ q) s.heap H locs → W p l e room_1 s m #[Value.ref b] below meth c H locs 4 70 (lw_Z below #[Value.ref b] s) (F0 m 374 ls []) := by
        intro k' md' tm' al' ln' od' H locs hi' hln' hP hD hS
        refine lv_iinc (v := nI (i + 4)) (lv' := [(3, .int (nI (i + 4))), (0, .ref b), (1, .ref q0), (2, .ref r0)]) hx hb dL_law_374 hl (k := 3) rfl (by rw [← nI_add]; rfl) (by decide) rfl (fun ls hl => ?_)
        refine lv_goto (tgt := 18) hx hb dL_law_377 (by decide) ?_
        exact ih (i + 4) hi4 (by omega) k' md' tm' al' ln' od' H locs hi' hln' hP hD hS ls (lv_sub hl [1, 2, 3, 0] rfl)
      refine lv_aload_n hx hb dL_law_26 rfl (lv_at hl 0 rfl) ?_
      refine lv_iload_n hx hb dL_law_27 rfl (lv_at hl 3 rfl) ?_
      refine va_sld hx hb hX hbl hbA hS v0 dL_law_28 ?_
      refine lv_bipush (v := 15) hx hb dL_law_29 (by decide) ?_
      refine lv_iand hx hb dL_law_31 ?_
      obtain ⟨j, hj, ej⟩ := pk_andE (xs (nI i).toNatClampNeg) (m := 15) 4 (by decide)
      rw [ej]
      rcases (show j = 0 ∨ j = 1 ∨ j = 2 ∨ j = 3 ∨ j = 4 ∨ j = 5 ∨ j = 6 ∨ j = 7 ∨ j = 8 ∨ j = 9 ∨ j = 10 ∨ j = 11 ∨ j = 12 ∨ j = 13 ∨ j = 14 ∨ j = 15 by omega) with rfl | rfl | rfl | rfl | rfl | rfl | rfl | rfl | rfl | rfl | rfl | rfl | rfl | rfl | rfl | rfl
      · skip
        refine lv_tableIn (off := 56) (tgt := 88) hx hb dL_law_32 (by decide) (by decide) rfl (by decide) ?_
        refine lv_aload_n hx hb dL_law_88 rfl (lv_at hl 1 rfl) ?_
        refine cf_wcallN (As := []) (rest := []) (wc := cf_W 0 q0 q1 cA k md tm al ln od) (wr := cf_W 1 r0 r1 cB k md tm al ln od) (wF := cf_W 0 q0 q1 cA (cf_fill k 0 29) 1 0 9223372036854775807 0 0) ⟨hx, hb, hml, hown, hts⟩ (c_begin l D z q0 q1 cA k md tm al ln od H.size) (cwV 0 hts gL_law_X0_begin rfl rfl rfl (by decide +kernel) ⟨(Nat.le_of_ble_eq_true rfl), (Nat.le_of_ble_eq_true rfl)⟩) hP hD (hK.sub (tys' := [(cA, .int)]) [0] rfl) hZ hS hA (hP.sub [0, 1] rfl) [0, 1] [2, 3] rfl rfl rfl rfl (by decide) (ci := 0) (q0 := 0) rfl rfl rfl rfl hl.1 rfl (Nat.le_of_ble_eq_true rfl) dL_law_89 ⟨(Nat.le_of_ble_eq_true rfl), (Nat.le_of_ble_eq_true rfl)⟩ (fun H locs hP hD hS => ?_)
        have hP : va_P D vwCl (cf_W 1 r0 r1 cB k md tm al ln od ++ cf_W 0 q0 q1 cA (cf_fill k 0 29) 1 0 9223372036854775807 0 0) H := hP
        have hD : va_D (fun q : Nat => s.heap.size ≤ q) (cf_W 1 r0 r1 cB k md tm al ln od ++ cf_W 0 q0 q1 cA (cf_fill k 0 29) 1 0 9223372036854775807 0 0) := hD
        refine lv_aload_n hx hb dL_law_92 rfl (lv_at hl 2 rfl) ?_
        refine cf_wcallN (As := []) (rest := []) (wc := cf_W 1 r0 r1 cB k md tm al ln od) (wr := cf_W 0 q0 q1 cA (cf_fill k 0 29) 1 0 9223372036854775807 0 0) (wF := cf_W 1 r0 r1 cB (cf_fill k 0 29) 1 0 9223372036854775807 0 0) ⟨hx, hb, hml, hown, hts⟩ (m_begin l D z r0 r1 cB k md tm al ln od H.size) (cwV 0 hts gL_law_X1_begin rfl rfl rfl (by decide +kernel) ⟨(Nat.le_of_ble_eq_true rfl), (Nat.le_of_ble_eq_true rfl)⟩) hP hD (hK.sub (tys' := [(cB, .int)]) [1] rfl) hZ hS hA (hP.sub [0, 1] rfl) [0, 1] [2, 3] rfl rfl rfl rfl (by decide) (ci := 1) (q0 := 0) rfl rfl rfl rfl hl.1 rfl (Nat.le_of_ble_eq_true rfl) dL_law_93 ⟨(Nat.le_of_ble_eq_true rfl), (Nat.le_of_ble_eq_true rfl)⟩ (fun H locs hP hD hS => ?_)
        have hP : va_P D vwCl (cf_W 0 q0 q1 cA (cf_fill k 0 29) 1 0 9223372036854775807 0 0 ++ cf_W 1 r0 r1 cB (cf_fill k 0 29) 1 0 9223372036854775807 0 0) H := hP
        have hD : va_D (fun q : Nat => s.heap.size ≤ q) (cf_W 0 q0 q1 cA (cf_fill k 0 29) 1 0 9223372036854775807 0 0 ++ cf_W 1 r0 r1 cB (cf_fill k 0 29) 1 0 9223372036854775807 0 0) := hD
        refine lv_goto (tgt := 374) hx hb dL_law_96 (by decide) ?_
        exact nxt (cf_fill k 0 29) 1 0 9223372036854775807 0 0 H locs (cf_inv_fill k) (Or.inl rfl) hP hD hS
      · skip
        refine lv_tableIn (off := 67) (tgt := 99) hx hb dL_law_32 (by decide) (by decide) rfl (by decide) ?_
        refine lv_aload_n hx hb dL_law_99 rfl (lv_at hl 1 rfl) ?_
        refine lv_aload_n hx hb dL_law_100 rfl (lv_at hl 0 rfl) ?_
        refine lv_iload_n hx hb dL_law_101 rfl (lv_at hl 3 rfl) ?_
        refine lv_iconst (v := 1) hx hb dL_law_102 (by decide) ?_
        refine lv_iadd hx hb dL_law_103 ?_
        refine va_sld hx hb hX hbl hbA hS v1 dL_law_104 ?_
        refine cf_wcallI (As := [.int (xs ((nI i) + 1).toNatClampNeg)]) (rest := []) (wc := cf_W 0 q0 q1 cA k md tm al ln od) (wr := cf_W 1 r0 r1 cB k md tm al ln od) (wF := cf_W 0 q0 q1 cA k (cf_mdM md (xs ((nI i) + 1).toNatClampNeg)) tm al ln od) ⟨hx, hb, hml, hown, hts⟩ (c_mode l D z q0 q1 cA k md tm al ln od H.size (xs ((nI i) + 1).toNatClampNeg)) (cwV 1 hts gL_law_X0_mode rfl rfl rfl (by decide +kernel) ⟨(Nat.le_of_ble_eq_true rfl), (Nat.le_of_ble_eq_true rfl)⟩) hP hD (hK.sub (tys' := [(cA, .int)]) [0] rfl) hZ hS hA (hP.sub [0, 1] rfl) [0, 1] [2, 3] rfl rfl rfl rfl (by decide) (ci := 0) (q0 := 0) rfl rfl rfl rfl hl.1 rfl (Nat.le_of_ble_eq_true rfl) dL_law_105 ⟨(Nat.le_of_ble_eq_true rfl), (Nat.le_of_ble_eq_true rfl)⟩ (fun H locs hP hD hS => ?_)
        have hP : va_P D vwCl (cf_W 1 r0 r1 cB k md tm al ln od ++ cf_W 0 q0 q1 cA k (cf_mdM md (xs ((nI i) + 1).toNatClampNeg)) tm al ln od) H := hP
        have hD : va_D (fun q : Nat => s.heap.size ≤ q) (cf_W 1 r0 r1 cB k md tm al ln od ++ cf_W 0 q0 q1 cA k (cf_mdM md (xs ((nI i) + 1).toNatClampNeg)) tm al ln od) := hD
        refine lv_aload_n hx hb dL_law_108 rfl (lv_at hl 2 rfl) ?_
        refine lv_aload_n hx hb dL_law_109 rfl (lv_at hl 0 rfl) ?_
        refine lv_iload_n hx hb dL_law_110 rfl (lv_at hl 3 rfl) ?_
        refine lv_iconst (v := 1) hx hb dL_law_111 (by decide) ?_
        refine lv_iadd hx hb dL_law_112 ?_
        refine va_sld hx hb hX hbl hbA hS v1 dL_law_113 ?_
        refine cf_wcallI (As := [.int (xs ((nI i) + 1).toNatClampNeg)]) (rest := [.int (cf_mdR md (xs ((nI i) + 1).toNatClampNeg))]) (wc := cf_W 1 r0 r1 cB k md tm al ln od) (wr := cf_W 0 q0 q1 cA k (cf_mdM md (xs ((nI i) + 1).toNatClampNeg)) tm al ln od) (wF := cf_W 1 r0 r1 cB k (cf_mdM md (xs ((nI i) + 1).toNatClampNeg)) tm al ln od) ⟨hx, hb, hml, hown, hts⟩ (m_mode l D z r0 r1 cB k md tm al ln od H.size (xs ((nI i) + 1).toNatClampNeg)) (cwV 1 hts gL_law_X1_mode rfl rfl rfl (by decide +kernel) ⟨(Nat.le_of_ble_eq_true rfl), (Nat.le_of_ble_eq_true rfl)⟩) hP hD (hK.sub (tys' := [(cB, .int)]) [1] rfl) hZ hS hA (hP.sub [0, 1] rfl) [0, 1] [2, 3] rfl rfl rfl rfl (by decide) (ci := 1) (q0 := 0) rfl rfl rfl rfl hl.1 rfl (Nat.le_of_ble_eq_true rfl) dL_law_114 ⟨(Nat.le_of_ble_eq_true rfl), (Nat.le_of_ble_eq_true rfl)⟩ (fun H locs hP hD hS => ?_)
        have hP : va_P D vwCl (cf_W 0 q0 q1 cA k (cf_mdM md (xs ((nI i) + 1).toNatClampNeg)) tm al ln od ++ cf_W 1 r0 r1 cB k (cf_mdM md (xs ((nI i) + 1).toNatClampNeg)) tm al ln od) H := hP
        have hD : va_D (fun q : Nat => s.heap.size ≤ q) (cf_W 0 q0 q1 cA k (cf_mdM md (xs ((nI i) + 1).toNatClampNeg)) tm al ln od ++ cf_W 1 r0 r1 cB k (cf_mdM md (xs ((nI i) + 1).toNatClampNeg)) tm al ln od) := hD
        refine lv_icmp_eq (tgt := 374) hx hb dL_law_117 (by decide) (fun c_2 => ?_) (fun c_2 => ?_)
        · skip
          exact nxt k (cf_mdM md (xs ((nI i) + 1).toNatClampNeg)) tm al ln od H locs hi hln hP hD hS
        · skip
          exact absurd rfl c_2
      · skip
        refine lv_tableIn (off := 90) (tgt := 122) hx hb dL_law_32 (by decide) (by decide) rfl (by decide) ?_
        refine lv_aload_n hx hb dL_law_122 rfl (lv_at hl 1 rfl) ?_
        refine lv_aload_n hx hb dL_law_123 rfl (lv_at hl 0 rfl) ?_
        refine lv_iload_n hx hb dL_law_124 rfl (lv_at hl 3 rfl) ?_
        refine lv_iconst (v := 1) hx hb dL_law_125 (by decide) ?_
        refine lv_iadd hx hb dL_law_126 ?_
        refine va_sld hx hb hX hbl hbA hS v1 dL_law_127 ?_
        refine lv_i2l (v := (xs ((nI i) + 1).toNatClampNeg).toInt64) hx hb dL_law_128 rfl ?_
        refine lv_bipush (v := 32) hx hb dL_law_129 (by decide) ?_
        refine lv_lshl (v := ((xs ((nI i) + 1).toNatClampNeg).toInt64) <<< ((32 : Int32).toInt64 &&& 63)) hx hb dL_law_131 rfl ?_
        refine lv_aload_n hx hb dL_law_132 rfl (lv_at hl 0 rfl) ?_
        refine lv_iload_n hx hb dL_law_133 rfl (lv_at hl 3 rfl) ?_
        refine lv_iconst (v := 2) hx hb dL_law_134 (by decide) ?_
        refine lv_iadd hx hb dL_law_135 ?_
        refine va_sld hx hb hX hbl hbA hS v2 dL_law_136 ?_
        refine lv_i2l (v := (xs ((nI i) + 2).toNatClampNeg).toInt64) hx hb dL_law_137 rfl ?_
        refine lv_ldc2 (own := RL) (v := 4294967295) hx hb hown (hts0 (.constantLong RL 22 4294967295) (by decide +kernel)) dL_law_138 ?_
        refine lv_land hx hb dL_law_141 ?_
        refine lv_lor hx hb dL_law_142 ?_
        refine cf_wcallL (As := [.long ((((xs ((nI i) + 1).toNatClampNeg).toInt64) <<< ((32 : Int32).toInt64 &&& 63)) ||| (((xs ((nI i) + 2).toNatClampNeg).toInt64) &&& 4294967295))]) (rest := []) (wc := cf_W 0 q0 q1 cA k md tm al ln od) (wr := cf_W 1 r0 r1 cB k md tm al ln od) (wF := cf_W 0 q0 q1 cA k md (cf_tmM tm ((((xs ((nI i) + 1).toNatClampNeg).toInt64) <<< ((32 : Int32).toInt64 &&& 63)) ||| (((xs ((nI i) + 2).toNatClampNeg).toInt64) &&& 4294967295))) al ln od) ⟨hx, hb, hml, hown, hts⟩ (c_time l D z q0 q1 cA k md tm al ln od H.size ((((xs ((nI i) + 1).toNatClampNeg).toInt64) <<< ((32 : Int32).toInt64 &&& 63)) ||| (((xs ((nI i) + 2).toNatClampNeg).toInt64) &&& 4294967295))) (cwV 1 hts gL_law_X0_time rfl rfl rfl (by decide +kernel) ⟨(Nat.le_of_ble_eq_true rfl), (Nat.le_of_ble_eq_true rfl)⟩) hP hD (hK.sub (tys' := [(cA, .int)]) [0] rfl) hZ hS hA (hP.sub [0, 1] rfl) [0, 1] [2, 3] rfl rfl rfl rfl (by decide) (ci := 0) (q0 := 0) rfl rfl rfl rfl hl.1 rfl (Nat.le_of_ble_eq_true rfl) dL_law_143 ⟨(Nat.le_of_ble_eq_true rfl), (Nat.le_of_ble_eq_true rfl)⟩ (fun H locs hP hD hS => ?_)
        have hP : va_P D vwCl (cf_W 1 r0 r1 cB k md tm al ln od ++ cf_W 0 q0 q1 cA k md (cf_tmM tm ((((xs ((nI i) + 1).toNatClampNeg).toInt64) <<< ((32 : Int32).toInt64 &&& 63)) ||| (((xs ((nI i) + 2).toNatClampNeg).toInt64) &&& 4294967295))) al ln od) H := hP
        have hD : va_D (fun q : Nat => s.heap.size ≤ q) (cf_W 1 r0 r1 cB k md tm al ln od ++ cf_W 0 q0 q1 cA k md (cf_tmM tm ((((xs ((nI i) + 1).toNatClampNeg).toInt64) <<< ((32 : Int32).toInt64 &&& 63)) ||| (((xs ((nI i) + 2).toNatClampNeg).toInt64) &&& 4294967295))) al ln od) := hD
        refine lv_aload_n hx hb dL_law_146 rfl (lv_at hl 2 rfl) ?_
        refine lv_aload_n hx hb dL_law_147 rfl (lv_at hl 0 rfl) ?_
        refine lv_iload_n hx hb dL_law_148 rfl (lv_at hl 3 rfl) ?_
        refine lv_iconst (v := 1) hx hb dL_law_149 (by decide) ?_
        refine lv_iadd hx hb dL_law_150 ?_
        refine va_sld hx hb hX hbl hbA hS v1 dL_law_151 ?_
        refine lv_i2l (v := (xs ((nI i) + 1).toNatClampNeg).toInt64) hx hb dL_law_152 rfl ?_
        refine lv_bipush (v := 32) hx hb dL_law_153 (by decide) ?_
        refine lv_lshl (v := ((xs ((nI i) + 1).toNatClampNeg).toInt64) <<< ((32 : Int32).toInt64 &&& 63)) hx hb dL_law_155 rfl ?_
        refine lv_aload_n hx hb dL_law_156 rfl (lv_at hl 0 rfl) ?_
        refine lv_iload_n hx hb dL_law_157 rfl (lv_at hl 3 rfl) ?_
        refine lv_iconst (v := 2) hx hb dL_law_158 (by decide) ?_
        refine lv_iadd hx hb dL_law_159 ?_
        refine va_sld hx hb hX hbl hbA hS v2 dL_law_160 ?_
        refine lv_i2l (v := (xs ((nI i) + 2).toNatClampNeg).toInt64) hx hb dL_law_161 rfl ?_
        refine lv_ldc2 (own := RL) (v := 4294967295) hx hb hown (hts0 (.constantLong RL 22 4294967295) (by decide +kernel)) dL_law_162 ?_
        refine lv_land hx hb dL_law_165 ?_
        refine lv_lor hx hb dL_law_166 ?_
        refine cf_wcallL (As := [.long ((((xs ((nI i) + 1).toNatClampNeg).toInt64) <<< ((32 : Int32).toInt64 &&& 63)) ||| (((xs ((nI i) + 2).toNatClampNeg).toInt64) &&& 4294967295))]) (rest := [.long (cf_tmR tm ((((xs ((nI i) + 1).toNatClampNeg).toInt64) <<< ((32 : Int32).toInt64 &&& 63)) ||| (((xs ((nI i) + 2).toNatClampNeg).toInt64) &&& 4294967295)))]) (wc := cf_W 1 r0 r1 cB k md tm al ln od) (wr := cf_W 0 q0 q1 cA k md (cf_tmM tm ((((xs ((nI i) + 1).toNatClampNeg).toInt64) <<< ((32 : Int32).toInt64 &&& 63)) ||| (((xs ((nI i) + 2).toNatClampNeg).toInt64) &&& 4294967295))) al ln od) (wF := cf_W 1 r0 r1 cB k md (cf_tmM tm ((((xs ((nI i) + 1).toNatClampNeg).toInt64) <<< ((32 : Int32).toInt64 &&& 63)) ||| (((xs ((nI i) + 2).toNatClampNeg).toInt64) &&& 4294967295))) al ln od) ⟨hx, hb, hml, hown, hts⟩ (m_time l D z r0 r1 cB k md tm al ln od H.size ((((xs ((nI i) + 1).toNatClampNeg).toInt64) <<< ((32 : Int32).toInt64 &&& 63)) ||| (((xs ((nI i) + 2).toNatClampNeg).toInt64) &&& 4294967295))) (cwV 1 hts gL_law_X1_time rfl rfl rfl (by decide +kernel) ⟨(Nat.le_of_ble_eq_true rfl), (Nat.le_of_ble_eq_true rfl)⟩) hP hD (hK.sub (tys' := [(cB, .int)]) [1] rfl) hZ hS hA (hP.sub [0, 1] rfl) [0, 1] [2, 3] rfl rfl rfl rfl (by decide) (ci := 1) (q0 := 0) rfl rfl rfl rfl hl.1 rfl (Nat.le_of_ble_eq_true rfl) dL_law_167 ⟨(Nat.le_of_ble_eq_true rfl), (Nat.le_of_ble_eq_true rfl)⟩ (fun H locs hP hD hS => ?_)
        have hP : va_P D vwCl (cf_W 0 q0 q1 cA k md (cf_tmM tm ((((xs ((nI i) + 1).toNatClampNeg).toInt64) <<< ((32 : Int32).toInt64 &&& 63)) ||| (((xs ((nI i) + 2).toNatClampNeg).toInt64) &&& 4294967295))) al ln od ++ cf_W 1 r0 r1 cB k md (cf_tmM tm ((((xs ((nI i) + 1).toNatClampNeg).toInt64) <<< ((32 : Int32).toInt64 &&& 63)) ||| (((xs ((nI i) + 2).toNatClampNeg).toInt64) &&& 4294967295))) al ln od) H := hP
        have hD : va_D (fun q : Nat => s.heap.size ≤ q) (cf_W 0 q0 q1 cA k md (cf_tmM tm ((((xs ((nI i) + 1).toNatClampNeg).toInt64) <<< ((32 : Int32).toInt64 &&& 63)) ||| (((xs ((nI i) + 2).toNatClampNeg).toInt64) &&& 4294967295))) al ln od ++ cf_W 1 r0 r1 cB k md (cf_tmM tm ((((xs ((nI i) + 1).toNatClampNeg).toInt64) <<< ((32 : Int32).toInt64 &&& 63)) ||| (((xs ((nI i) + 2).toNatClampNeg).toInt64) &&& 4294967295))) al ln od) := hD
        refine W.lcmp hx hb dL_law_170 ?_
        refine lv_if_eq (tgt := 374) hx hb dL_law_171 (by decide) (fun c_3 => ?_) (fun c_3 => ?_)
        · skip
          exact nxt k md (cf_tmM tm ((((xs ((nI i) + 1).toNatClampNeg).toInt64) <<< ((32 : Int32).toInt64 &&& 63)) ||| (((xs ((nI i) + 2).toNatClampNeg).toInt64) &&& 4294967295))) al ln od H locs hi hln hP hD hS
        · skip
          exact absurd ((lg_cmp_eq _ _).mpr rfl) c_3
      · skip
        refine lv_tableIn (off := 144) (tgt := 176) hx hb dL_law_32 (by decide) (by decide) rfl (by decide) ?_
        refine lv_aload_n hx hb dL_law_176 rfl (lv_at hl 1 rfl) ?_
        refine lv_aload_n hx hb dL_law_177 rfl (lv_at hl 0 rfl) ?_
        refine lv_iload_n hx hb dL_law_178 rfl (lv_at hl 3 rfl) ?_
        refine lv_iconst (v := 1) hx hb dL_law_179 (by decide) ?_
        refine lv_iadd hx hb dL_law_180 ?_
        refine va_sld hx hb hX hbl hbA hS v1 dL_law_181 ?_
        refine lv_i2l (v := (xs ((nI i) + 1).toNatClampNeg).toInt64) hx hb dL_law_182 rfl ?_
        refine lv_bipush (v := 32) hx hb dL_law_183 (by decide) ?_
        refine lv_lshl (v := ((xs ((nI i) + 1).toNatClampNeg).toInt64) <<< ((32 : Int32).toInt64 &&& 63)) hx hb dL_law_185 rfl ?_
        refine lv_aload_n hx hb dL_law_186 rfl (lv_at hl 0 rfl) ?_
        refine lv_iload_n hx hb dL_law_187 rfl (lv_at hl 3 rfl) ?_
        refine lv_iconst (v := 2) hx hb dL_law_188 (by decide) ?_
        refine lv_iadd hx hb dL_law_189 ?_
        refine va_sld hx hb hX hbl hbA hS v2 dL_law_190 ?_
        refine lv_i2l (v := (xs ((nI i) + 2).toNatClampNeg).toInt64) hx hb dL_law_191 rfl ?_
        refine lv_ldc2 (own := RL) (v := 4294967295) hx hb hown (hts0 (.constantLong RL 22 4294967295) (by decide +kernel)) dL_law_192 ?_
        refine lv_land hx hb dL_law_195 ?_
        refine lv_lor hx hb dL_law_196 ?_
        refine cf_wcallL (As := [.long ((((xs ((nI i) + 1).toNatClampNeg).toInt64) <<< ((32 : Int32).toInt64 &&& 63)) ||| (((xs ((nI i) + 2).toNatClampNeg).toInt64) &&& 4294967295))]) (rest := []) (wc := cf_W 0 q0 q1 cA k md tm al ln od) (wr := cf_W 1 r0 r1 cB k md tm al ln od) (wF := cf_W 0 q0 q1 cA k md tm (cf_alM ((((xs ((nI i) + 1).toNatClampNeg).toInt64) <<< ((32 : Int32).toInt64 &&& 63)) ||| (((xs ((nI i) + 2).toNatClampNeg).toInt64) &&& 4294967295))) ln od) ⟨hx, hb, hml, hown, hts⟩ (c_alarm l D z q0 q1 cA k md tm al ln od H.size ((((xs ((nI i) + 1).toNatClampNeg).toInt64) <<< ((32 : Int32).toInt64 &&& 63)) ||| (((xs ((nI i) + 2).toNatClampNeg).toInt64) &&& 4294967295))) (cwV 1 hts gL_law_X0_alarm rfl rfl rfl (by decide +kernel) ⟨(Nat.le_of_ble_eq_true rfl), (Nat.le_of_ble_eq_true rfl)⟩) hP hD (hK.sub (tys' := [(cA, .int)]) [0] rfl) hZ hS hA (hP.sub [0, 1] rfl) [0, 1] [2, 3] rfl rfl rfl rfl (by decide) (ci := 0) (q0 := 0) rfl rfl rfl rfl hl.1 rfl (Nat.le_of_ble_eq_true rfl) dL_law_197 ⟨(Nat.le_of_ble_eq_true rfl), (Nat.le_of_ble_eq_true rfl)⟩ (fun H locs hP hD hS => ?_)
        have hP : va_P D vwCl (cf_W 1 r0 r1 cB k md tm al ln od ++ cf_W 0 q0 q1 cA k md tm (cf_alM ((((xs ((nI i) + 1).toNatClampNeg).toInt64) <<< ((32 : Int32).toInt64 &&& 63)) ||| (((xs ((nI i) + 2).toNatClampNeg).toInt64) &&& 4294967295))) ln od) H := hP
        have hD : va_D (fun q : Nat => s.heap.size ≤ q) (cf_W 1 r0 r1 cB k md tm al ln od ++ cf_W 0 q0 q1 cA k md tm (cf_alM ((((xs ((nI i) + 1).toNatClampNeg).toInt64) <<< ((32 : Int32).toInt64 &&& 63)) ||| (((xs ((nI i) + 2).toNatClampNeg).toInt64) &&& 4294967295))) ln od) := hD
        refine lv_aload_n hx hb dL_law_200 rfl (lv_at hl 2 rfl) ?_
        refine lv_aload_n hx hb dL_law_201 rfl (lv_at hl 0 rfl) ?_
        refine lv_iload_n hx hb dL_law_202 rfl (lv_at hl 3 rfl) ?_
        refine lv_iconst (v := 1) hx hb dL_law_203 (by decide) ?_
        refine lv_iadd hx hb dL_law_204 ?_
        refine va_sld hx hb hX hbl hbA hS v1 dL_law_205 ?_
        refine lv_i2l (v := (xs ((nI i) + 1).toNatClampNeg).toInt64) hx hb dL_law_206 rfl ?_
        refine lv_bipush (v := 32) hx hb dL_law_207 (by decide) ?_
        refine lv_lshl (v := ((xs ((nI i) + 1).toNatClampNeg).toInt64) <<< ((32 : Int32).toInt64 &&& 63)) hx hb dL_law_209 rfl ?_
        refine lv_aload_n hx hb dL_law_210 rfl (lv_at hl 0 rfl) ?_
        refine lv_iload_n hx hb dL_law_211 rfl (lv_at hl 3 rfl) ?_
        refine lv_iconst (v := 2) hx hb dL_law_212 (by decide) ?_
        refine lv_iadd hx hb dL_law_213 ?_
        refine va_sld hx hb hX hbl hbA hS v2 dL_law_214 ?_
        refine lv_i2l (v := (xs ((nI i) + 2).toNatClampNeg).toInt64) hx hb dL_law_215 rfl ?_
        refine lv_ldc2 (own := RL) (v := 4294967295) hx hb hown (hts0 (.constantLong RL 22 4294967295) (by decide +kernel)) dL_law_216 ?_
        refine lv_land hx hb dL_law_219 ?_
        refine lv_lor hx hb dL_law_220 ?_
        refine cf_wcallL (As := [.long ((((xs ((nI i) + 1).toNatClampNeg).toInt64) <<< ((32 : Int32).toInt64 &&& 63)) ||| (((xs ((nI i) + 2).toNatClampNeg).toInt64) &&& 4294967295))]) (rest := [.long al]) (wc := cf_W 1 r0 r1 cB k md tm al ln od) (wr := cf_W 0 q0 q1 cA k md tm (cf_alM ((((xs ((nI i) + 1).toNatClampNeg).toInt64) <<< ((32 : Int32).toInt64 &&& 63)) ||| (((xs ((nI i) + 2).toNatClampNeg).toInt64) &&& 4294967295))) ln od) (wF := cf_W 1 r0 r1 cB k md tm (cf_alM ((((xs ((nI i) + 1).toNatClampNeg).toInt64) <<< ((32 : Int32).toInt64 &&& 63)) ||| (((xs ((nI i) + 2).toNatClampNeg).toInt64) &&& 4294967295))) ln od) ⟨hx, hb, hml, hown, hts⟩ (m_alarm l D z r0 r1 cB k md tm al ln od H.size ((((xs ((nI i) + 1).toNatClampNeg).toInt64) <<< ((32 : Int32).toInt64 &&& 63)) ||| (((xs ((nI i) + 2).toNatClampNeg).toInt64) &&& 4294967295))) (cwV 1 hts gL_law_X1_alarm rfl rfl rfl (by decide +kernel) ⟨(Nat.le_of_ble_eq_true rfl), (Nat.le_of_ble_eq_true rfl)⟩) hP hD (hK.sub (tys' := [(cB, .int)]) [1] rfl) hZ hS hA (hP.sub [0, 1] rfl) [0, 1] [2, 3] rfl rfl rfl rfl (by decide) (ci := 1) (q0 := 0) rfl rfl rfl rfl hl.1 rfl (Nat.le_of_ble_eq_true rfl) dL_law_221 ⟨(Nat.le_of_ble_eq_true rfl), (Nat.le_of_ble_eq_true rfl)⟩ (fun H locs hP hD hS => ?_)
        have hP : va_P D vwCl (cf_W 0 q0 q1 cA k md tm (cf_alM ((((xs ((nI i) + 1).toNatClampNeg).toInt64) <<< ((32 : Int32).toInt64 &&& 63)) ||| (((xs ((nI i) + 2).toNatClampNeg).toInt64) &&& 4294967295))) ln od ++ cf_W 1 r0 r1 cB k md tm (cf_alM ((((xs ((nI i) + 1).toNatClampNeg).toInt64) <<< ((32 : Int32).toInt64 &&& 63)) ||| (((xs ((nI i) + 2).toNatClampNeg).toInt64) &&& 4294967295))) ln od) H := hP
        have hD : va_D (fun q : Nat => s.heap.size ≤ q) (cf_W 0 q0 q1 cA k md tm (cf_alM ((((xs ((nI i) + 1).toNatClampNeg).toInt64) <<< ((32 : Int32).toInt64 &&& 63)) ||| (((xs ((nI i) + 2).toNatClampNeg).toInt64) &&& 4294967295))) ln od ++ cf_W 1 r0 r1 cB k md tm (cf_alM ((((xs ((nI i) + 1).toNatClampNeg).toInt64) <<< ((32 : Int32).toInt64 &&& 63)) ||| (((xs ((nI i) + 2).toNatClampNeg).toInt64) &&& 4294967295))) ln od) := hD
        refine W.lcmp hx hb dL_law_224 ?_
        refine lv_if_eq (tgt := 374) hx hb dL_law_225 (by decide) (fun c_4 => ?_) (fun c_4 => ?_)
        · skip
          exact nxt k md tm (cf_alM ((((xs ((nI i) + 1).toNatClampNeg).toInt64) <<< ((32 : Int32).toInt64 &&& 63)) ||| (((xs ((nI i) + 2).toNatClampNeg).toInt64) &&& 4294967295))) ln od H locs hi hln hP hD hS
        · skip
          exact absurd ((lg_cmp_eq _ _).mpr rfl) c_4
      · skip
        refine lv_tableIn (off := 198) (tgt := 230) hx hb dL_law_32 (by decide) (by decide) rfl (by decide) ?_
        refine lv_aload_n hx hb dL_law_230 rfl (lv_at hl 1 rfl) ?_
        refine lv_aload_n hx hb dL_law_231 rfl (lv_at hl 0 rfl) ?_
        refine lv_iload_n hx hb dL_law_232 rfl (lv_at hl 3 rfl) ?_
        refine lv_iconst (v := 1) hx hb dL_law_233 (by decide) ?_
        refine lv_iadd hx hb dL_law_234 ?_
        refine va_sld hx hb hX hbl hbA hS v1 dL_law_235 ?_
        refine lv_if_eq (tgt := 243) hx hb dL_law_236 (by decide) (fun c_5 => ?_) (fun c_5 => ?_)
        · skip
          refine lv_iconst (v := 0) hx hb dL_law_243 (by decide) ?_
          refine cf_wcallI (As := [.int 0]) (rest := []) (wc := cf_W 0 q0 q1 cA k md tm al ln od) (wr := cf_W 1 r0 r1 cB k md tm al ln od) (wF := cf_W 0 q0 q1 cA k md tm al 0 od) ⟨hx, hb, hml, hown, hts⟩ (c_line l D z q0 q1 cA k md tm al ln od H.size 0 hln (Or.inl rfl)) (cwV 1 hts gL_law_X0_line rfl rfl rfl (by decide +kernel) ⟨(Nat.le_of_ble_eq_true rfl), (Nat.le_of_ble_eq_true rfl)⟩) hP hD (hK.sub (tys' := [(cA, .int)]) [0] rfl) hZ hS hA (hP.sub [0, 1] rfl) [0, 1] [2, 3] rfl rfl rfl rfl (by decide) (ci := 0) (q0 := 0) rfl rfl rfl rfl hl.1 rfl (Nat.le_of_ble_eq_true rfl) dL_law_244 ⟨(Nat.le_of_ble_eq_true rfl), (Nat.le_of_ble_eq_true rfl)⟩ (fun H locs hP hD hS => ?_)
          have hP : va_P D vwCl (cf_W 1 r0 r1 cB k md tm al ln od ++ cf_W 0 q0 q1 cA k md tm al 0 od) H := hP
          have hD : va_D (fun q : Nat => s.heap.size ≤ q) (cf_W 1 r0 r1 cB k md tm al ln od ++ cf_W 0 q0 q1 cA k md tm al 0 od) := hD
          refine lv_aload_n hx hb dL_law_247 rfl (lv_at hl 2 rfl) ?_
          refine lv_aload_n hx hb dL_law_248 rfl (lv_at hl 0 rfl) ?_
          refine lv_iload_n hx hb dL_law_249 rfl (lv_at hl 3 rfl) ?_
          refine lv_iconst (v := 1) hx hb dL_law_250 (by decide) ?_
          refine lv_iadd hx hb dL_law_251 ?_
          refine va_sld hx hb hX hbl hbA hS v1 dL_law_252 ?_
          refine lv_if_eq (tgt := 260) hx hb dL_law_253 (by decide) (fun c_6 => ?_) (fun c_6 => ?_)
          · skip
            refine lv_iconst (v := 0) hx hb dL_law_260 (by decide) ?_
            refine cf_wcallI (As := [.int 0]) (rest := [.int ln]) (wc := cf_W 1 r0 r1 cB k md tm al ln od) (wr := cf_W 0 q0 q1 cA k md tm al 0 od) (wF := cf_W 1 r0 r1 cB k md tm al 0 od) ⟨hx, hb, hml, hown, hts⟩ (m_line l D z r0 r1 cB k md tm al ln od H.size 0 hln (Or.inl rfl)) (cwV 1 hts gL_law_X1_line rfl rfl rfl (by decide +kernel) ⟨(Nat.le_of_ble_eq_true rfl), (Nat.le_of_ble_eq_true rfl)⟩) hP hD (hK.sub (tys' := [(cB, .int)]) [1] rfl) hZ hS hA (hP.sub [0, 1] rfl) [0, 1] [2, 3] rfl rfl rfl rfl (by decide) (ci := 1) (q0 := 0) rfl rfl rfl rfl hl.1 rfl (Nat.le_of_ble_eq_true rfl) dL_law_261 ⟨(Nat.le_of_ble_eq_true rfl), (Nat.le_of_ble_eq_true rfl)⟩ (fun H locs hP hD hS => ?_)
            have hP : va_P D vwCl (cf_W 0 q0 q1 cA k md tm al 0 od ++ cf_W 1 r0 r1 cB k md tm al 0 od) H := hP
            have hD : va_D (fun q : Nat => s.heap.size ≤ q) (cf_W 0 q0 q1 cA k md tm al 0 od ++ cf_W 1 r0 r1 cB k md tm al 0 od) := hD
            refine lv_icmp_eq (tgt := 374) hx hb dL_law_264 (by decide) (fun c_7 => ?_) (fun c_7 => ?_)
            · skip
              exact nxt k md tm al 0 od H locs hi (Or.inl rfl) hP hD hS
            · skip
              exact absurd rfl c_7
          · skip
            exact absurd c_5 c_6
        · skip
          refine lv_iconst (v := 1) hx hb dL_law_239 (by decide) ?_
          refine lv_goto (tgt := 244) hx hb dL_law_240 (by decide) ?_
          refine cf_wcallI (As := [.int 1]) (rest := []) (wc := cf_W 0 q0 q1 cA k md tm al ln od) (wr := cf_W 1 r0 r1 cB k md tm al ln od) (wF := cf_W 0 q0 q1 cA k md tm al 1 od) ⟨hx, hb, hml, hown, hts⟩ (c_line l D z q0 q1 cA k md tm al ln od H.size 1 hln (Or.inr rfl)) (cwV 1 hts gL_law_X0_line rfl rfl rfl (by decide +kernel) ⟨(Nat.le_of_ble_eq_true rfl), (Nat.le_of_ble_eq_true rfl)⟩) hP hD (hK.sub (tys' := [(cA, .int)]) [0] rfl) hZ hS hA (hP.sub [0, 1] rfl) [0, 1] [2, 3] rfl rfl rfl rfl (by decide) (ci := 0) (q0 := 0) rfl rfl rfl rfl hl.1 rfl (Nat.le_of_ble_eq_true rfl) dL_law_244 ⟨(Nat.le_of_ble_eq_true rfl), (Nat.le_of_ble_eq_true rfl)⟩ (fun H locs hP hD hS => ?_)
          have hP : va_P D vwCl (cf_W 1 r0 r1 cB k md tm al ln od ++ cf_W 0 q0 q1 cA k md tm al 1 od) H := hP
          have hD : va_D (fun q : Nat => s.heap.size ≤ q) (cf_W 1 r0 r1 cB k md tm al ln od ++ cf_W 0 q0 q1 cA k md tm al 1 od) := hD
          refine lv_aload_n hx hb dL_law_247 rfl (lv_at hl 2 rfl) ?_
          refine lv_aload_n hx hb dL_law_248 rfl (lv_at hl 0 rfl) ?_
          refine lv_iload_n hx hb dL_law_249 rfl (lv_at hl 3 rfl) ?_
          refine lv_iconst (v := 1) hx hb dL_law_250 (by decide) ?_
          refine lv_iadd hx hb dL_law_251 ?_
          refine va_sld hx hb hX hbl hbA hS v1 dL_law_252 ?_
          refine lv_if_eq (tgt := 260) hx hb dL_law_253 (by decide) (fun c_8 => ?_) (fun c_8 => ?_)
          · skip
            exact absurd c_8 c_5
          · skip
            refine lv_iconst (v := 1) hx hb dL_law_256 (by decide) ?_
            refine lv_goto (tgt := 261) hx hb dL_law_257 (by decide) ?_
            refine cf_wcallI (As := [.int 1]) (rest := [.int ln]) (wc := cf_W 1 r0 r1 cB k md tm al ln od) (wr := cf_W 0 q0 q1 cA k md tm al 1 od) (wF := cf_W 1 r0 r1 cB k md tm al 1 od) ⟨hx, hb, hml, hown, hts⟩ (m_line l D z r0 r1 cB k md tm al ln od H.size 1 hln (Or.inr rfl)) (cwV 1 hts gL_law_X1_line rfl rfl rfl (by decide +kernel) ⟨(Nat.le_of_ble_eq_true rfl), (Nat.le_of_ble_eq_true rfl)⟩) hP hD (hK.sub (tys' := [(cB, .int)]) [1] rfl) hZ hS hA (hP.sub [0, 1] rfl) [0, 1] [2, 3] rfl rfl rfl rfl (by decide) (ci := 1) (q0 := 0) rfl rfl rfl rfl hl.1 rfl (Nat.le_of_ble_eq_true rfl) dL_law_261 ⟨(Nat.le_of_ble_eq_true rfl), (Nat.le_of_ble_eq_true rfl)⟩ (fun H locs hP hD hS => ?_)
            have hP : va_P D vwCl (cf_W 0 q0 q1 cA k md tm al 1 od ++ cf_W 1 r0 r1 cB k md tm al 1 od) H := hP
            have hD : va_D (fun q : Nat => s.heap.size ≤ q) (cf_W 0 q0 q1 cA k md tm al 1 od ++ cf_W 1 r0 r1 cB k md tm al 1 od) := hD
            refine lv_icmp_eq (tgt := 374) hx hb dL_law_264 (by decide) (fun c_9 => ?_) (fun c_9 => ?_)
            · skip
              exact nxt k md tm al 1 od H locs hi (Or.inr rfl) hP hD hS
            · skip
              exact absurd rfl c_9
      · skip
        refine lv_tableIn (off := 237) (tgt := 269) hx hb dL_law_32 (by decide) (by decide) rfl (by decide) ?_
        refine lv_aload_n hx hb dL_law_269 rfl (lv_at hl 1 rfl) ?_
        refine lv_aload_n hx hb dL_law_270 rfl (lv_at hl 0 rfl) ?_
        refine lv_iload_n hx hb dL_law_271 rfl (lv_at hl 3 rfl) ?_
        refine lv_iconst (v := 1) hx hb dL_law_272 (by decide) ?_
        refine lv_iadd hx hb dL_law_273 ?_
        refine va_sld hx hb hX hbl hbA hS v1 dL_law_274 ?_
        refine lv_aload_n hx hb dL_law_275 rfl (lv_at hl 0 rfl) ?_
        refine lv_iload_n hx hb dL_law_276 rfl (lv_at hl 3 rfl) ?_
        refine lv_iconst (v := 2) hx hb dL_law_277 (by decide) ?_
        refine lv_iadd hx hb dL_law_278 ?_
        refine va_sld hx hb hX hbl hbA hS v2 dL_law_279 ?_
        refine lv_aload_n hx hb dL_law_280 rfl (lv_at hl 0 rfl) ?_
        refine lv_iload_n hx hb dL_law_281 rfl (lv_at hl 3 rfl) ?_
        refine lv_iconst (v := 3) hx hb dL_law_282 (by decide) ?_
        refine lv_iadd hx hb dL_law_283 ?_
        refine va_sld hx hb hX hbl hbA hS v3 dL_law_284 ?_
        refine cf_wcallI (As := [.int (xs ((nI i) + 1).toNatClampNeg), .int (xs ((nI i) + 2).toNatClampNeg), .int (xs ((nI i) + 3).toNatClampNeg)]) (rest := []) (wc := cf_W 0 q0 q1 cA k md tm al ln od) (wr := cf_W 1 r0 r1 cB k md tm al ln od) (wF := cf_W 0 q0 q1 cA (cf_accK k md tm al ln (xs ((nI i) + 1).toNatClampNeg) (xs ((nI i) + 2).toNatClampNeg) (xs ((nI i) + 3).toNatClampNeg)) md tm al ln (cf_accO k md tm al ln od (xs ((nI i) + 1).toNatClampNeg) (xs ((nI i) + 2).toNatClampNeg))) ⟨hx, hb, hml, hown, hts⟩ (c_access l D z q0 q1 cA k md tm al ln od H.size (xs ((nI i) + 1).toNatClampNeg) (xs ((nI i) + 2).toNatClampNeg) (xs ((nI i) + 3).toNatClampNeg)) (cwV 3 hts gL_law_X0_access rfl rfl rfl (by decide +kernel) ⟨(Nat.le_of_ble_eq_true rfl), (Nat.le_of_ble_eq_true rfl)⟩) hP hD (hK.sub (tys' := [(cA, .int)]) [0] rfl) hZ hS hA (hP.sub [0, 1] rfl) [0, 1] [2, 3] rfl rfl rfl rfl (by decide) (ci := 0) (q0 := 0) rfl rfl rfl rfl hl.1 rfl (Nat.le_of_ble_eq_true rfl) dL_law_285 ⟨(Nat.le_of_ble_eq_true rfl), (Nat.le_of_ble_eq_true rfl)⟩ (fun H locs hP hD hS => ?_)
        have hP : va_P D vwCl (cf_W 1 r0 r1 cB k md tm al ln od ++ cf_W 0 q0 q1 cA (cf_accK k md tm al ln (xs ((nI i) + 1).toNatClampNeg) (xs ((nI i) + 2).toNatClampNeg) (xs ((nI i) + 3).toNatClampNeg)) md tm al ln (cf_accO k md tm al ln od (xs ((nI i) + 1).toNatClampNeg) (xs ((nI i) + 2).toNatClampNeg))) H := hP
        have hD : va_D (fun q : Nat => s.heap.size ≤ q) (cf_W 1 r0 r1 cB k md tm al ln od ++ cf_W 0 q0 q1 cA (cf_accK k md tm al ln (xs ((nI i) + 1).toNatClampNeg) (xs ((nI i) + 2).toNatClampNeg) (xs ((nI i) + 3).toNatClampNeg)) md tm al ln (cf_accO k md tm al ln od (xs ((nI i) + 1).toNatClampNeg) (xs ((nI i) + 2).toNatClampNeg))) := hD
        refine lv_aload_n hx hb dL_law_288 rfl (lv_at hl 2 rfl) ?_
        refine lv_aload_n hx hb dL_law_289 rfl (lv_at hl 0 rfl) ?_
        refine lv_iload_n hx hb dL_law_290 rfl (lv_at hl 3 rfl) ?_
        refine lv_iconst (v := 1) hx hb dL_law_291 (by decide) ?_
        refine lv_iadd hx hb dL_law_292 ?_
        refine va_sld hx hb hX hbl hbA hS v1 dL_law_293 ?_
        refine lv_aload_n hx hb dL_law_294 rfl (lv_at hl 0 rfl) ?_
        refine lv_iload_n hx hb dL_law_295 rfl (lv_at hl 3 rfl) ?_
        refine lv_iconst (v := 2) hx hb dL_law_296 (by decide) ?_
        refine lv_iadd hx hb dL_law_297 ?_
        refine va_sld hx hb hX hbl hbA hS v2 dL_law_298 ?_
        refine lv_aload_n hx hb dL_law_299 rfl (lv_at hl 0 rfl) ?_
        refine lv_iload_n hx hb dL_law_300 rfl (lv_at hl 3 rfl) ?_
        refine lv_iconst (v := 3) hx hb dL_law_301 (by decide) ?_
        refine lv_iadd hx hb dL_law_302 ?_
        refine va_sld hx hb hX hbl hbA hS v3 dL_law_303 ?_
        refine cf_wcallI (As := [.int (xs ((nI i) + 1).toNatClampNeg), .int (xs ((nI i) + 2).toNatClampNeg), .int (xs ((nI i) + 3).toNatClampNeg)]) (rest := [.int (cf_accR k md (xs ((nI i) + 1).toNatClampNeg) (xs ((nI i) + 2).toNatClampNeg))]) (wc := cf_W 1 r0 r1 cB k md tm al ln od) (wr := cf_W 0 q0 q1 cA (cf_accK k md tm al ln (xs ((nI i) + 1).toNatClampNeg) (xs ((nI i) + 2).toNatClampNeg) (xs ((nI i) + 3).toNatClampNeg)) md tm al ln (cf_accO k md tm al ln od (xs ((nI i) + 1).toNatClampNeg) (xs ((nI i) + 2).toNatClampNeg))) (wF := cf_W 1 r0 r1 cB (cf_accK k md tm al ln (xs ((nI i) + 1).toNatClampNeg) (xs ((nI i) + 2).toNatClampNeg) (xs ((nI i) + 3).toNatClampNeg)) md tm al ln (cf_accO k md tm al ln od (xs ((nI i) + 1).toNatClampNeg) (xs ((nI i) + 2).toNatClampNeg))) ⟨hx, hb, hml, hown, hts⟩ (mx_access l D z r0 r1 cB k md tm al ln od H.size (xs ((nI i) + 1).toNatClampNeg) (xs ((nI i) + 2).toNatClampNeg) (xs ((nI i) + 3).toNatClampNeg) hi) (cwV 3 hts gL_law_X1_access rfl rfl rfl (by decide +kernel) ⟨(Nat.le_of_ble_eq_true rfl), (Nat.le_of_ble_eq_true rfl)⟩) hP hD (hK.sub (tys' := [(cB, .int)]) [1] rfl) hZ hS hA (hP.sub [0, 1] rfl) [0, 1] [2, 3] rfl rfl rfl rfl (by decide) (ci := 1) (q0 := 0) rfl rfl rfl rfl hl.1 rfl (Nat.le_of_ble_eq_true rfl) dL_law_304 ⟨(Nat.le_of_ble_eq_true rfl), (Nat.le_of_ble_eq_true rfl)⟩ (fun H locs hP hD hS => ?_)
        have hP : va_P D vwCl (cf_W 0 q0 q1 cA (cf_accK k md tm al ln (xs ((nI i) + 1).toNatClampNeg) (xs ((nI i) + 2).toNatClampNeg) (xs ((nI i) + 3).toNatClampNeg)) md tm al ln (cf_accO k md tm al ln od (xs ((nI i) + 1).toNatClampNeg) (xs ((nI i) + 2).toNatClampNeg)) ++ cf_W 1 r0 r1 cB (cf_accK k md tm al ln (xs ((nI i) + 1).toNatClampNeg) (xs ((nI i) + 2).toNatClampNeg) (xs ((nI i) + 3).toNatClampNeg)) md tm al ln (cf_accO k md tm al ln od (xs ((nI i) + 1).toNatClampNeg) (xs ((nI i) + 2).toNatClampNeg))) H := hP
        have hD : va_D (fun q : Nat => s.heap.size ≤ q) (cf_W 0 q0 q1 cA (cf_accK k md tm al ln (xs ((nI i) + 1).toNatClampNeg) (xs ((nI i) + 2).toNatClampNeg) (xs ((nI i) + 3).toNatClampNeg)) md tm al ln (cf_accO k md tm al ln od (xs ((nI i) + 1).toNatClampNeg) (xs ((nI i) + 2).toNatClampNeg)) ++ cf_W 1 r0 r1 cB (cf_accK k md tm al ln (xs ((nI i) + 1).toNatClampNeg) (xs ((nI i) + 2).toNatClampNeg) (xs ((nI i) + 3).toNatClampNeg)) md tm al ln (cf_accO k md tm al ln od (xs ((nI i) + 1).toNatClampNeg) (xs ((nI i) + 2).toNatClampNeg))) := hD
        refine lv_icmp_eq (tgt := 374) hx hb dL_law_307 (by decide) (fun c_10 => ?_) (fun c_10 => ?_)
        · skip
          exact nxt (cf_accK k md tm al ln (xs ((nI i) + 1).toNatClampNeg) (xs ((nI i) + 2).toNatClampNeg) (xs ((nI i) + 3).toNatClampNeg)) md tm al ln (cf_accO k md tm al ln od (xs ((nI i) + 1).toNatClampNeg) (xs ((nI i) + 2).toNatClampNeg)) H locs (cf_accK_eq hi md tm al ln (xs ((nI i) + 1).toNatClampNeg) (xs ((nI i) + 2).toNatClampNeg) (xs ((nI i) + 3).toNatClampNeg)).2 hln hP hD hS
        · skip
          exact absurd rfl c_10
      · skip
        refine lv_tableIn (off := 280) (tgt := 312) hx hb dL_law_32 (by decide) (by decide) rfl (by decide) ?_
        refine lv_aload_n hx hb dL_law_312 rfl (lv_at hl 1 rfl) ?_
        refine cf_callV (As := []) (rest := []) (wc := cf_W 0 q0 q1 cA k md tm al ln od) ⟨hx, hb, hml, hown, hts⟩ (c_old l D z q0 q1 cA k md tm al ln od) (cwV 0 hts gL_law_X0_old rfl rfl rfl (by decide +kernel) ⟨(Nat.le_of_ble_eq_true rfl), (Nat.le_of_ble_eq_true rfl)⟩) (hP.sub [0, 1] rfl) (hK.sub (tys' := [(cA, .int)]) [0] rfl) hZ hS (ci := 0) (q0 := 0) rfl rfl rfl rfl hl.1 rfl (Nat.le_of_ble_eq_true rfl) dL_law_313 ⟨(Nat.le_of_ble_eq_true rfl), (Nat.le_of_ble_eq_true rfl)⟩ ?_
        refine lv_aload_n hx hb dL_law_316 rfl (lv_at hl 2 rfl) ?_
        refine cf_callV (As := []) (rest := [.int od]) (wc := cf_W 1 r0 r1 cB k md tm al ln od) ⟨hx, hb, hml, hown, hts⟩ (m_old l D z r0 r1 cB k md tm al ln od) (cwV 0 hts gL_law_X1_old rfl rfl rfl (by decide +kernel) ⟨(Nat.le_of_ble_eq_true rfl), (Nat.le_of_ble_eq_true rfl)⟩) (hP.sub [2, 3] rfl) (hK.sub (tys' := [(cB, .int)]) [1] rfl) hZ hS (ci := 1) (q0 := 0) rfl rfl rfl rfl hl.1 rfl (Nat.le_of_ble_eq_true rfl) dL_law_317 ⟨(Nat.le_of_ble_eq_true rfl), (Nat.le_of_ble_eq_true rfl)⟩ ?_
        refine lv_icmp_eq (tgt := 374) hx hb dL_law_320 (by decide) (fun c_11 => ?_) (fun c_11 => ?_)
        · skip
          exact nxt k md tm al ln od H locs hi hln hP hD hS
        · skip
          exact absurd rfl c_11
      · skip
        refine lv_tableIn (off := 293) (tgt := 325) hx hb dL_law_32 (by decide) (by decide) rfl (by decide) ?_
        refine lv_aload_n hx hb dL_law_325 rfl (lv_at hl 1 rfl) ?_
        refine lv_aload_n hx hb dL_law_326 rfl (lv_at hl 0 rfl) ?_
        refine lv_iload_n hx hb dL_law_327 rfl (lv_at hl 3 rfl) ?_
        refine lv_iconst (v := 1) hx hb dL_law_328 (by decide) ?_
        refine lv_iadd hx hb dL_law_329 ?_
        refine va_sld hx hb hX hbl hbA hS v1 dL_law_330 ?_
        refine cf_callV (As := [.int (xs ((nI i) + 1).toNatClampNeg)]) (rest := []) (wc := cf_W 0 q0 q1 cA k md tm al ln od) ⟨hx, hb, hml, hown, hts⟩ (c_control l D z q0 q1 cA k md tm al ln od (xs ((nI i) + 1).toNatClampNeg)) (cwV 1 hts gL_law_X0_control rfl rfl rfl (by decide +kernel) ⟨(Nat.le_of_ble_eq_true rfl), (Nat.le_of_ble_eq_true rfl)⟩) (hP.sub [0, 1] rfl) (hK.sub (tys' := [(cA, .int)]) [0] rfl) hZ hS (ci := 0) (q0 := 0) rfl rfl rfl rfl hl.1 rfl (Nat.le_of_ble_eq_true rfl) dL_law_331 ⟨(Nat.le_of_ble_eq_true rfl), (Nat.le_of_ble_eq_true rfl)⟩ ?_
        refine lv_aload_n hx hb dL_law_334 rfl (lv_at hl 2 rfl) ?_
        refine lv_aload_n hx hb dL_law_335 rfl (lv_at hl 0 rfl) ?_
        refine lv_iload_n hx hb dL_law_336 rfl (lv_at hl 3 rfl) ?_
        refine lv_iconst (v := 1) hx hb dL_law_337 (by decide) ?_
        refine lv_iadd hx hb dL_law_338 ?_
        refine va_sld hx hb hX hbl hbA hS v1 dL_law_339 ?_
        refine cf_callV (As := [.int (xs ((nI i) + 1).toNatClampNeg)]) (rest := [.int (cf_told k tm al ln (cf_slot (xs ((nI i) + 1).toNatClampNeg)))]) (wc := cf_W 1 r0 r1 cB k md tm al ln od) ⟨hx, hb, hml, hown, hts⟩ (mx_control l D z r0 r1 cB k md tm al ln od (xs ((nI i) + 1).toNatClampNeg) hi) (cwV 1 hts gL_law_X1_control rfl rfl rfl (by decide +kernel) ⟨(Nat.le_of_ble_eq_true rfl), (Nat.le_of_ble_eq_true rfl)⟩) (hP.sub [2, 3] rfl) (hK.sub (tys' := [(cB, .int)]) [1] rfl) hZ hS (ci := 1) (q0 := 0) rfl rfl rfl rfl hl.1 rfl (Nat.le_of_ble_eq_true rfl) dL_law_340 ⟨(Nat.le_of_ble_eq_true rfl), (Nat.le_of_ble_eq_true rfl)⟩ ?_
        refine lv_icmp_eq (tgt := 374) hx hb dL_law_343 (by decide) (fun c_12 => ?_) (fun c_12 => ?_)
        · skip
          exact nxt k md tm al ln od H locs hi hln hP hD hS
        · skip
          exact absurd rfl c_12
      · skip
        refine lv_tableIn (off := 316) (tgt := 348) hx hb dL_law_32 (by decide) (by decide) rfl (by decide) ?_
        refine lv_aload_n hx hb dL_law_348 rfl (lv_at hl 1 rfl) ?_
        refine cf_callV (As := []) (rest := []) (wc := cf_W 0 q0 q1 cA k md tm al ln od) ⟨hx, hb, hml, hown, hts⟩ (c_used l D z q0 q1 cA k md tm al ln od) (cwV 0 hts gL_law_X0_used rfl rfl rfl (by decide +kernel) ⟨(Nat.le_of_ble_eq_true rfl), (Nat.le_of_ble_eq_true rfl)⟩) (hP.sub [0, 1] rfl) (hK.sub (tys' := [(cA, .int)]) [0] rfl) hZ hS (ci := 0) (q0 := 0) rfl rfl rfl rfl hl.1 rfl (Nat.le_of_ble_eq_true rfl) dL_law_349 ⟨(Nat.le_of_ble_eq_true rfl), (Nat.le_of_ble_eq_true rfl)⟩ ?_
        refine lv_aload_n hx hb dL_law_352 rfl (lv_at hl 2 rfl) ?_
        refine cf_callV (As := []) (rest := [.int (cf_used k tm al ln)]) (wc := cf_W 1 r0 r1 cB k md tm al ln od) ⟨hx, hb, hml, hown, hts⟩ (mx_used l D z r0 r1 cB k md tm al ln od hi) (cwV 0 hts gL_law_X1_used rfl rfl rfl (by decide +kernel) ⟨(Nat.le_of_ble_eq_true rfl), (Nat.le_of_ble_eq_true rfl)⟩) (hP.sub [2, 3] rfl) (hK.sub (tys' := [(cB, .int)]) [1] rfl) hZ hS (ci := 1) (q0 := 0) rfl rfl rfl rfl hl.1 rfl (Nat.le_of_ble_eq_true rfl) dL_law_353 ⟨(Nat.le_of_ble_eq_true rfl), (Nat.le_of_ble_eq_true rfl)⟩ ?_
        refine lv_icmp_eq (tgt := 374) hx hb dL_law_356 (by decide) (fun c_13 => ?_) (fun c_13 => ?_)
        · skip
          exact nxt k md tm al ln od H locs hi hln hP hD hS
        · skip
          exact absurd rfl c_13
      · skip
        refine lv_tableIn (off := 329) (tgt := 361) hx hb dL_law_32 (by decide) (by decide) rfl (by decide) ?_
        refine lv_aload_n hx hb dL_law_361 rfl (lv_at hl 1 rfl) ?_
        refine cf_callV (As := []) (rest := []) (wc := cf_W 0 q0 q1 cA k md tm al ln od) ⟨hx, hb, hml, hown, hts⟩ (c_due l D z q0 q1 cA k md tm al ln od) (cwV 0 hts gL_law_X0_due rfl rfl rfl (by decide +kernel) ⟨(Nat.le_of_ble_eq_true rfl), (Nat.le_of_ble_eq_true rfl)⟩) (hP.sub [0, 1] rfl) (hK.sub (tys' := [(cA, .int)]) [0] rfl) hZ hS (ci := 0) (q0 := 0) rfl rfl rfl rfl hl.1 rfl (Nat.le_of_ble_eq_true rfl) dL_law_362 ⟨(Nat.le_of_ble_eq_true rfl), (Nat.le_of_ble_eq_true rfl)⟩ ?_
        refine lv_aload_n hx hb dL_law_365 rfl (lv_at hl 2 rfl) ?_
        refine cf_callV (As := []) (rest := [.int (cf_due k md tm al ln)]) (wc := cf_W 1 r0 r1 cB k md tm al ln od) ⟨hx, hb, hml, hown, hts0⟩ (mx_due l D z r0 r1 cB k md tm al ln od hi) (cwV 0 hts0 gL_law_X1_due rfl rfl rfl (by decide +kernel) ⟨(Nat.le_of_ble_eq_true rfl), (Nat.le_of_ble_eq_true rfl)⟩) (hP.sub [2, 3] rfl) (hK.sub (tys' := [(cB, .int)]) [1] rfl) hZ hS (ci := 1) (q0 := 0) rfl rfl rfl rfl hl.1 rfl (Nat.le_of_ble_eq_true rfl) dL_law_366 ⟨(Nat.le_of_ble_eq_true rfl), (Nat.le_of_ble_eq_true rfl)⟩ ?_
        refine lv_icmp_eq (tgt := 374) hx hb dL_law_369 (by decide) (fun c_14 => ?_) (fun c_14 => ?_)
        · skip
          exact nxt k md tm al ln od H locs hi hln hP hD hS
        · skip
          exact absurd rfl c_14
      · skip
        refine lv_tableOut (tgt := 374) hx hb dL_law_32 (Or.inr (by decide)) (by decide) ?_
        exact nxt k md tm al ln od H locs hi hln hP hD hS
      · skip
        refine lv_tableOut (tgt := 374) hx hb dL_law_32 (Or.inr (by decide)) (by decide) ?_
        exact nxt k md tm al ln od H locs hi hln hP hD hS
      · skip
        refine lv_tableOut (tgt := 374) hx hb dL_law_32 (Or.inr (by decide)) (by decide) ?_
        exact nxt k md tm al ln od H locs hi hln hP hD hS
      · skip
        refine lv_tableOut (tgt := 374) hx hb dL_law_32 (Or.inr (by decide)) (by decide) ?_
        exact nxt k md tm al ln od H locs hi hln hP hD hS
      · skip
        refine lv_tableOut (tgt := 374) hx hb dL_law_32 (Or.inr (by decide)) (by decide) ?_
        exact nxt k md tm al ln od H locs hi hln hP hD hS
      · skip
        refine lv_tableOut (tgt := 374) hx hb dL_law_32 (Or.inr (by decide)) (by decide) ?_
        exact nxt k md tm al ln od H locs hi hln hP hD hS
