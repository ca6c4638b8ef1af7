/-! PURE ROWS. The first thirty or so are kit/laws/BITS.to-paste (family 'Int32 by its bits'). -/
def bt (x : Int32) (i : Nat) : Bool := x.toBitVec.getLsbD i
theorem b_ext {x y : Int32} (h : ∀ i, i < 32 → bt x i = bt y i) : x = y := Int32.toBitVec_inj.mp (BitVec.eq_of_getLsbD_eq (fun i hi => h i hi))
theorem b_or (x y : Int32) (i : Nat) : bt (x ||| y) i = (bt x i || bt y i) := by unfold bt; rw [Int32.toBitVec_or, BitVec.getLsbD_or]
theorem b_and (x y : Int32) (i : Nat) : bt (x &&& y) i = (bt x i && bt y i) := by unfold bt; rw [Int32.toBitVec_and, BitVec.getLsbD_and]
theorem b_xor (x y : Int32) (i : Nat) : bt (x ^^^ y) i = (bt x i ^^ bt y i) := by unfold bt; rw [Int32.toBitVec_xor, BitVec.getLsbD_xor]
theorem b_big {x : Int32} {i : Nat} (h : 32 ≤ i) : bt x i = false := BitVec.getLsbD_of_ge _ _ h
theorem b_m1 : ∀ i, i < 32 → bt (-1) i = true := by decide +kernel
theorem b_0 (i : Nat) : bt 0 i = false := BitVec.getLsbD_zero
theorem s_l : ∀ n, n < 32 → ((nI n &&& 31).toBitVec.smod 32).toNat = n := by decide +kernel
theorem s_u : ∀ n, n < 32 → (((nI n).toUInt32 &&& Int32.toUInt32 31).toBitVec % 32).toNat = n := by decide +kernel
theorem b_ushr (n : Nat) (hn : n < 32) (x : Int32) (i : Nat) : bt ((x.toUInt32 >>> ((nI n).toUInt32 &&& Int32.toUInt32 31)).toInt32) i = bt x (n + i) := by
  show (x.toUInt32 >>> ((nI n).toUInt32 &&& Int32.toUInt32 31)).toBitVec.getLsbD i = x.toUInt32.toBitVec.getLsbD (n + i)
  rw [UInt32.toBitVec_shiftRight]
  show (x.toUInt32.toBitVec >>> (((nI n).toUInt32 &&& Int32.toUInt32 31).toBitVec % 32).toNat).getLsbD i = _
  rw [s_u n hn, BitVec.getLsbD_ushiftRight]
theorem b_sshr (n : Nat) (hn : n < 32) (x : Int32) {i : Nat} (hi : i < 32) : bt (x >>> (nI n &&& 31)) i = if n + i < 32 then bt x (n + i) else bt x 31 := by
  unfold bt
  rw [Int32.toBitVec_shiftRight]
  show (x.toBitVec.sshiftRight ((nI n &&& 31).toBitVec.smod 32).toNat).getLsbD i = _
  rw [s_l n hn, BitVec.getLsbD_sshiftRight, BitVec.msb_eq_getLsbD_last]
  simp [hi]
-- one bit, told three ways
theorem cf_b1 : ∀ i, i < 32 → bt 1 i = decide (i = 0) := by decide +kernel
theorem cf_bs (y : Int32) (b : Nat) (hb : b < 32) : (y >>> (nI b &&& 31)) &&& 1 = if bt y b = true then 1 else 0 := by
  apply b_ext
  intro i hi
  rw [b_and, b_sshr b hb y hi, cf_b1 i hi]
  by_cases h0 : i = 0
  · subst h0
    rw [if_pos (by omega), Nat.add_zero]
    cases hq : bt y b
    · simp [b_0]
    · simp [cf_b1]
  · rw [decide_eq_false h0, Bool.and_false]
    cases hq : bt y b
    · simp [b_0]
    · simp [cf_b1 i hi, h0]
theorem cf_bu (y : Int32) (b : Nat) (hb : b < 32) : cf_ush y (nI b) &&& 1 = if bt y b = true then 1 else 0 := by
  apply b_ext
  intro i hi
  unfold cf_ush
  rw [b_and, b_ushr b hb y i, cf_b1 i hi]
  by_cases h0 : i = 0
  · subst h0
    rw [Nat.add_zero]
    cases hq : bt y b
    · simp [b_0]
    · simp [cf_b1]
  · rw [decide_eq_false h0, Bool.and_false]
    cases hq : bt y b
    · simp [b_0]
    · simp [cf_b1 i hi, h0]
theorem cf_msk (y m : Int32) (b : Nat) (hb : b < 32) (hm : ∀ i, i < 32 → bt m i = decide (i = b)) : y &&& m = 0 ↔ bt y b = false := by
  constructor
  · intro h
    have hmb : bt m b = true := by rw [hm b hb]; exact decide_eq_true rfl
    have q : bt (y &&& m) b = bt 0 b := by rw [h]
    rw [b_and, hmb, b_0, Bool.and_true] at q
    exact q
  · intro h
    apply b_ext
    intro i hi
    rw [b_and, hm i hi, b_0]
    by_cases e : i = b
    · subst e
      rw [h, Bool.false_and]
    · rw [decide_eq_false e, Bool.and_false]
theorem cf_m2 : ∀ i, i < 32 → bt 2 i = decide (i = 1) := by decide +kernel
theorem cf_mV : ∀ i, i < 32 → bt 1048576 i = decide (i = 20) := by decide +kernel
theorem cf_has_eq (k : Nat → Int32) (j b : Nat) (hb : b < 32) : mf_has k j (nI b) = 0 ↔ bt (k j) b = false := by
  unfold mf_has
  rw [cf_bs (k j) b hb]
  cases bt (k j) b <;> decide
-- masks
theorem cf_sb1 {a m : Int32} (b : Int32) (h : a &&& m = a) : (a &&& b) &&& m = a &&& b := by
  apply b_ext
  intro i hi
  have q : bt (a &&& m) i = bt a i := by rw [h]
  rw [b_and] at q
  rw [b_and, b_and]
  revert q
  generalize bt a i = x
  generalize bt m i = y
  generalize bt b i = w
  revert x y w
  decide
theorem cf_sb2 {a m : Int32} (b : Int32) (h : a &&& m = a) : (b &&& a) &&& m = b &&& a := by
  apply b_ext
  intro i hi
  have q : bt (a &&& m) i = bt a i := by rw [h]
  rw [b_and] at q
  rw [b_and, b_and]
  revert q
  generalize bt a i = x
  generalize bt m i = y
  generalize bt b i = w
  revert x y w
  decide
theorem cf_sb3 {a b m : Int32} (h : a &&& m = a) (h2 : b &&& m = b) : (a ||| b) &&& m = a ||| b := by
  apply b_ext
  intro i hi
  have q : bt (a &&& m) i = bt a i := by rw [h]
  have q2 : bt (b &&& m) i = bt b i := by rw [h2]
  rw [b_and] at q q2
  rw [b_and, b_or]
  revert q q2
  generalize bt a i = x
  generalize bt m i = y
  generalize bt b i = w
  revert x y w
  decide
theorem cf_sb4 (v m : Int32) : (v &&& m) &&& m = v &&& m := by
  apply b_ext
  intro i hi
  simp only [b_and]
  cases bt v i <;> cases bt m i <;> rfl
theorem cf_sbt {a m : Int32} {i : Nat} (h : a &&& m = a) (hm : bt m i = false) : bt a i = false := by
  rw [← h, b_and, hm, Bool.and_false]
theorem cf_am1 (v : Int32) : v &&& (-1) = v := by
  apply b_ext
  intro i hi
  rw [b_and, b_m1 i hi, Bool.and_true]
theorem cf_all (a v : Int32) : (a &&& ((-1) ^^^ (-1))) ||| (v &&& (-1)) = v := by
  apply b_ext
  intro i hi
  rw [b_or, b_and, b_and, b_xor, b_m1 i hi]
  cases bt a i <;> cases bt v i <;> rfl
theorem cf_comm (a b : Int32) : a &&& b = b &&& a := by
  apply b_ext
  intro i hi
  rw [b_and, b_and, Bool.and_comm]
theorem cf_or0 (a : Int32) : a ||| 0 = a := by
  apply b_ext
  intro i hi
  rw [b_or, b_0, Bool.or_false]
-- shifts: without and with the sign
theorem cf_sh1 {y : Int32} (h : bt y 31 = false) : cf_ush y 1 = y >>> ((1 : Int32) &&& 31) := by
  apply b_ext
  intro i hi
  show bt ((y.toUInt32 >>> ((nI 1).toUInt32 &&& Int32.toUInt32 31)).toInt32) i = bt (y >>> (nI 1 &&& 31)) i
  rw [b_ushr 1 (by omega), b_sshr 1 (by omega) y hi]
  by_cases e : 1 + i < 32
  · rw [if_pos e]
  · rw [if_neg e, b_big (by omega), h]
theorem cf_hi (t : Int64) : (cf_lush t 32).toInt32 = (cf_lsh t 32).toInt32 := by
  have e1 : (cf_lush t 32).toBitVec = t.toBitVec >>> 32 := by
    show (t.toUInt64 >>> ((32 : Int32).toInt64.toUInt64 &&& Int64.toUInt64 63)).toBitVec = _
    rw [UInt64.toBitVec_shiftRight]
    show t.toBitVec >>> (((32 : Int32).toInt64.toUInt64 &&& Int64.toUInt64 63).toBitVec % 64).toNat = _
    rw [show (((32 : Int32).toInt64.toUInt64 &&& Int64.toUInt64 63).toBitVec % 64).toNat = 32 by decide +kernel]
  have e2 : (cf_lsh t 32).toBitVec = t.toBitVec.sshiftRight 32 := by
    unfold cf_lsh
    rw [Int64.toBitVec_shiftRight]
    show t.toBitVec.sshiftRight (((32 : Int32).toInt64 &&& 63).toBitVec.smod 64).toNat = _
    rw [show (((32 : Int32).toInt64 &&& 63).toBitVec.smod 64).toNat = 32 by decide +kernel]
  apply Int32.toBitVec_inj.1
  rw [Int64.toBitVec_toInt32, Int64.toBitVec_toInt32, e1, e2]
  apply BitVec.eq_of_getLsbD_eq
  intro i hi
  rw [BitVec.getLsbD_signExtend, BitVec.getLsbD_signExtend, if_pos (by omega), if_pos (by omega), BitVec.getLsbD_ushiftRight, BitVec.getLsbD_sshiftRight]
  have h1 : 32 + i < 64 := by omega
  have h2 : ¬ 64 ≤ i := by omega
  simp [h1, h2]
-- the place of a number
theorem cf_sl_none {n : Int32} (h : ∀ j, j < 29 → ¬ cf_num j = n) : ∀ r i, i + r ≤ 29 → cf_sl n i r = -1 := by
  intro r
  induction r with
  | zero => intro i _; rfl
  | succ r ih => intro i hi; rw [cf_sl, if_neg (h i (by omega))]; exact ih (i + 1) (by omega)
theorem cf_sl_rng (n : Int32) : ∀ r i, i + r ≤ 29 → cf_sl n i r = -1 ∨ vp_in (cf_sl n i r) 29 := by
  intro r
  induction r with
  | zero => intro i _; exact Or.inl rfl
  | succ r ih =>
    intro i hi
    rw [cf_sl]
    by_cases h : cf_num i = n
    · rw [if_pos h]; exact Or.inr (vp_in_nI (by omega) (by omega))
    · rw [if_neg h]; exact ih (i + 1) (by omega)
theorem cf_slot_rng (n : Int32) : cf_slot n = -1 ∨ vp_in (cf_slot n) 29 := cf_sl_rng n 29 0 (by omega)
theorem cf_num_rng : ∀ j, j < 29 → 0 ≤ (cf_num j).toInt ∧ (cf_num j).toInt < 4096 := by decide +kernel
theorem cf_place_in : ∀ a, a < 64 → ∀ b, b < 64 → mf_place (nI (64 * a + b)) = cf_slot (nI (64 * a + b)) := by decide +kernel
theorem cf_place_out {n : Int32} (h : n < 0 ∨ nI 4096 ≤ n) : mf_place n = cf_slot n := by
  have hn : n.toInt < 0 ∨ 4096 ≤ n.toInt := by
    rcases h with h | h
    · left; rw [Int32.lt_iff_toInt_lt] at h; exact h
    · right; rw [Int32.le_iff_toInt_le, nI_toInt (by omega)] at h; exact h
  have e : (n >>> ((8 : Int32) &&& 31)).toInt = n.toInt / 256 := by
    rw [pk_shr n ((8 : Int32) &&& 31) 8 (by decide +kernel), Int.shiftRight_eq_div_pow]; rfl
  have hp : ∀ q : Int32, 0 ≤ q.toInt → q.toInt < 16 → ¬ n >>> ((8 : Int32) &&& 31) = q := by
    intro q h0 h1 hq
    rw [hq] at e
    omega
  have hc : ∀ q : Int32, 0 ≤ q.toInt → q.toInt < 4096 → ¬ n = q := by
    intro q h0 h1 hq
    subst hq
    omega
  have h1 : mf_place n = -1 := by
    unfold mf_place mf_hyp
    rw [if_neg (hp 1 (by decide) (by decide)), if_neg (hp 2 (by decide) (by decide)), if_neg (hc 1536 (by decide) (by decide)), if_neg (hc 1538 (by decide) (by decide)), if_neg (hc 1539 (by decide) (by decide)), if_neg (hc 1540 (by decide) (by decide)), if_neg (hc 1603 (by decide) (by decide)), if_neg (hc 1604 (by decide) (by decide)), if_neg (hc 1605 (by decide) (by decide)), if_neg (hc 1610 (by decide) (by decide)), if_neg (hc 1664 (by decide) (by decide)), if_neg (hc 3073 (by decide) (by decide)), if_neg (hc 3201 (by decide) (by decide))]
  have h2 : cf_slot n = -1 := cf_sl_none (fun j hj hq => hc (cf_num j) (cf_num_rng j hj).1 (cf_num_rng j hj).2 hq.symm) 29 0 (by omega)
  rw [h1, h2]
theorem cf_place (n : Int32) : mf_place n = cf_slot n := by
  rcases pk_ix n (n := 4096) (by omega) with h | h | ⟨j, hj, rfl⟩
  · exact cf_place_out (Or.inl h)
  · exact cf_place_out (Or.inr h)
  · have q := cf_place_in (j / 64) (by omega) (j % 64) (by omega)
    rw [show 64 * (j / 64) + j % 64 = j by omega] at q
    exact q
theorem mf_in0 {n : Int32} (h : ¬ mf_place n = -1) : vp_in (mf_place n) 29 := by
  rw [cf_place] at h ⊢
  rcases cf_slot_rng n with q | q
  · exact absurd q h
  · exact q
theorem mf_in1 {k : Nat → Int32} {md n w : Int32} (h : mf_ref k md (mf_place n) w ≤ 0) : vp_in (mf_place n) 29 := by
  apply mf_in0
  intro q
  rw [mf_ref, if_pos q] at h
  exact absurd h (by decide)
theorem mf_in2 {x : Int32} (h : vp_in x 29) (h8 : ¬ 8 < x) : vp_in (x + 9) 29 := by
  obtain ⟨j, hj, rfl⟩ := vp_in_of h (by decide)
  have q : ¬ nI 8 < nI j := h8
  rw [nI_ltI (by omega) (by omega)] at q
  show vp_in (nI j + nI 9) 29
  rw [nI_add]
  exact vp_in_nI (by omega) (by omega)
-- the two sides
def cf_inv (k : Nat → Int32) : Prop := k 20 &&& 1092 = k 20 ∧ k 21 &&& 1092 = k 21 ∧ k 24 &&& 1092 = k 24 ∧ k 1 &&& 546 = k 1
theorem cf_pend_eq (k : Nat → Int32) (tm al : Int64) (ln : Int32) : mf_pend k tm al ln = cf_pend k tm al ln := by
  unfold mf_pend cf_pend
  by_cases h1 : lg_cmp tm al < 0
  · rw [if_pos h1, if_pos h1, cf_or0]
    by_cases h2 : ln = 0
    · rw [if_pos h2, if_pos h2, cf_or0]
    · rw [if_neg h2, if_neg h2]
  · rw [if_neg h1, if_neg h1]
    by_cases h2 : ln = 0
    · rw [if_pos h2, if_pos h2, cf_or0]
    · rw [if_neg h2, if_neg h2]
theorem cf_m31 : bt 1092 31 = false := by decide +kernel
theorem cf_tell_eq {k : Nat → Int32} (hi : cf_inv k) (tm al : Int64) (ln : Int32) {x : Int32} (hx : vp_in x 29) : mf_tell k tm al ln x = cf_told k tm al ln x := by
  obtain ⟨h20, h21, h24, h1⟩ := hi
  rw [vp_in_iff] at hx
  unfold mf_tell cf_told
  rw [cf_pend_eq, cf_sh1 (y := k 21 &&& k 20) (by rw [b_and, cf_sbt h20 cf_m31, Bool.and_false]), cf_sh1 (y := k 24 &&& k 20) (by rw [b_and, cf_sbt h20 cf_m31, Bool.and_false]), cf_hi]
  rw [if_neg (c := x < 0) (by rw [Int32.lt_iff_toInt_lt]; exact Int.not_lt.mpr hx.1), if_neg (c := 29 ≤ x) (by rw [Int32.le_iff_toInt_le]; exact Int.not_le.mpr hx.2)]
theorem cf_ofS_eq {x : Int32} (hx : vp_in x 29) : cf_ofS x = 0 ↔ 8 < x := by
  obtain ⟨j, hj, rfl⟩ := vp_in_of hx (by decide)
  exact (by decide +kernel : ∀ j, j < 29 → (cf_ofS (nI j) = 0 ↔ 8 < nI j)) j hj
theorem cf_perm_eq (k : Nat → Int32) (md w : Int32) {x : Int32} (hx : x = -1 ∨ vp_in x 29) : mf_ref k md x w = cf_perm k md x w := by
  unfold mf_ref cf_perm cf_perm2 mf_ref2
  by_cases e : x = -1
  · rw [if_pos e, if_pos e]
  · have hx : vp_in x 29 := hx.resolve_left e
    rw [if_neg e, if_neg e]
    by_cases ht : cf_ofT x = 0
    · simp only [if_pos ht]
      by_cases h1 : md = 1
      · simp only [if_pos h1, ite_self]
      · simp only [if_neg h1, ite_self]
        by_cases h0 : md = 0
        · simp only [if_pos h0]
        · simp only [if_neg h0]
          by_cases h3 : md = 3
          · simp only [if_pos h3]
            by_cases h8 : 8 < x
            · rw [if_pos h8, if_pos ((cf_ofS_eq hx).mpr h8)]
            · rw [if_neg h8, if_neg (fun q => h8 ((cf_ofS_eq hx).mp q))]
              unfold cf_trap
              by_cases he : x = 8
              · rw [if_pos he, if_pos he]
                have q1 : mf_has k 18 20 = 0 ↔ bt (k 18) 20 = false := cf_has_eq k 18 20 (by omega)
                have q2 := cf_msk (k 18) 1048576 20 (by omega) cf_mV
                by_cases hb : bt (k 18) 20 = false
                · rw [if_pos (q1.mpr hb), if_pos (q2.mpr hb), if_pos cf_p00]
                · rw [if_neg (fun q => hb (q1.mp q)), if_neg (fun q => hb (q2.mp q)), if_neg cf_n10]
              · rw [if_neg he, if_neg he, if_pos cf_p00]
          · simp only [if_neg h3]
    · simp only [if_neg ht, ite_self]
theorem mf_ref_vals (k : Nat → Int32) (md x w : Int32) : mf_ref k md x w = 0 ∨ mf_ref k md x w = 2 ∨ mf_ref k md x w = 22 := by
  unfold mf_ref mf_ref2
  repeat' split
  all_goals simp
theorem mf_ref_le (k : Nat → Int32) (md x w : Int32) : mf_ref k md x w ≤ 0 ↔ mf_ref k md x w = 0 := by
  rcases mf_ref_vals k md x w with h | h | h <;> rw [h] <;> decide
theorem cf_kd {kd : Int32} (h : ¬ kd < 0) : kd ≤ 0 ↔ kd = 0 := by
  rw [Int32.lt_iff_toInt_lt] at h
  rw [Int32.le_iff_toInt_le, ← Int32.toInt_inj]
  have e0 : (0 : Int32).toInt = 0 := by decide
  omega
theorem cf_bit_eq {kd : Int32} (h : ¬ kd < 0) : mf_bit kd = cf_bit kd := by
  unfold mf_bit cf_bit
  by_cases e : kd = 0
  · rw [if_pos e, if_pos ((cf_kd h).mpr e)]
  · rw [if_neg e, if_neg (fun q => e ((cf_kd h).mp q))]
theorem cf_at_eq (md : Int32) {x : Int32} (hx : vp_in x 29) : mf_at md x = cf_at md x := by
  unfold mf_at cf_at
  by_cases h3 : md = 3
  · rw [if_pos h3, if_pos h3]
    by_cases h8 : 8 < x
    · rw [if_pos h8, if_pos ((cf_ofS_eq hx).mpr h8)]
    · rw [if_neg h8, if_neg (fun q => h8 ((cf_ofS_eq hx).mp q))]
  · rw [if_neg h3, if_neg h3]
theorem cf_at_rng (md : Int32) {x : Int32} (hx : vp_in x 29) (h27 : ¬ x = 27) (h28 : ¬ x = 28) : vp_in (cf_at md x) 27 := by
  rw [← cf_at_eq md hx]
  obtain ⟨j, hj, rfl⟩ := vp_in_of hx (by decide)
  have a : j ≠ 27 := fun q => h27 (by rw [q]; rfl)
  have b : j ≠ 28 := fun q => h28 (by rw [q]; rfl)
  have hj2 : vp_in (nI j) 27 := vp_in_nI (by omega) (by omega)
  unfold mf_at
  by_cases h3 : md = 3
  · rw [if_pos h3]
    by_cases h8 : 8 < nI j
    · rw [if_pos h8]; exact hj2
    · rw [if_neg h8]
      have q : ¬ nI 8 < nI j := h8
      rw [nI_ltI (by omega) (by omega)] at q
      show vp_in (nI j + nI 9) 27
      rw [nI_add]
      exact vp_in_nI (by omega) (by omega)
  · rw [if_neg h3]; exact hj2
theorem cf_at_29 (md : Int32) {x : Int32} (hx : vp_in x 29) : vp_in (cf_at md x) 29 := by
  rw [← cf_at_eq md hx]
  unfold mf_at
  by_cases h3 : md = 3
  · rw [if_pos h3]
    by_cases h8 : 8 < x
    · rw [if_pos h8]; exact hx
    · rw [if_neg h8]; exact mf_in2 hx h8
  · rw [if_neg h3]; exact hx
theorem cf_keep_eq : ∀ j, j < 27 → j ≠ 10 → j ≠ 16 → j ≠ 23 → mf_mask (nI j) = cf_keep j := by decide +kernel
theorem cf_putB_lit (k : Nat → Int32) (j : Nat) (hj : j < 29) (v b : Int32) : cf_putB k (nI j) v b = upd k j ((k j &&& (b ^^^ -1)) ||| (v &&& b)) := by
  unfold cf_putB
  rw [if_neg (nI_pos (by omega)), if_neg (show ¬ (29 : Int32) ≤ nI j from nI_ge hj (by decide)), nI_clamp (by omega)]
theorem mf_put_lit (k : Nat → Int32) (j : Nat) (hj : j < 29) (b v : Int32) : mf_put k (nI j) b v = upd k j ((k j &&& (b ^^^ -1)) ||| (v &&& b)) := by
  unfold mf_put
  rw [nI_clamp (by omega)]
/-- what a write makes of the row, in one form -/
theorem cf_put_nat (k : Nat → Int32) (j : Nat) (hj : j < 29) (v : Int32) : cf_put k (nI j) v = if j = 10 then upd k 21 ((k 21 &&& (k 20 ^^^ -1)) ||| ((v <<< ((1 : Int32) &&& 31)) &&& k 20)) else if j = 16 then upd k 24 ((k 24 &&& ((4 &&& k 20) ^^^ -1)) ||| ((v <<< ((1 : Int32) &&& 31)) &&& (4 &&& k 20))) else if j = 23 then upd k 24 ((k 24 &&& (4 ^^^ -1)) ||| (v &&& 4)) else upd k j (v &&& cf_keep j) := by
  unfold cf_put
  have h10 : nI j = 10 ↔ j = 10 := nI_eq (b := 10) (by omega) (by omega)
  have h16 : nI j = 16 ↔ j = 16 := nI_eq (b := 16) (by omega) (by omega)
  have h23 : nI j = 23 ↔ j = 23 := nI_eq (b := 23) (by omega) (by omega)
  by_cases e10 : j = 10
  · rw [if_pos (h10.mpr e10), if_pos e10]; exact cf_putB_lit k 21 (by omega) _ _
  rw [if_neg (fun q => e10 (h10.mp q)), if_neg e10]
  by_cases e16 : j = 16
  · rw [if_pos (h16.mpr e16), if_pos e16]; exact cf_putB_lit k 24 (by omega) _ _
  rw [if_neg (fun q => e16 (h16.mp q)), if_neg e16]
  by_cases e23 : j = 23
  · rw [if_pos (h23.mpr e23), if_pos e23]; exact cf_putB_lit k 24 (by omega) _ _
  rw [if_neg (fun q => e23 (h23.mp q)), if_neg e23]
  rw [if_neg (nI_pos (by omega)), if_neg (show ¬ (29 : Int32) ≤ nI j from nI_ge hj (by decide)), nI_clamp (by omega)]
theorem cf_put_eq {k : Nat → Int32} (hi : cf_inv k) (v : Int32) {x : Int32} (hx : vp_in x 27) : mf_write k x v = cf_put k x v := by
  obtain ⟨h20, h21, h24, h1⟩ := hi
  obtain ⟨j, hj, rfl⟩ := vp_in_of hx (by decide)
  rw [cf_put_nat k j (by omega) v]
  unfold mf_write
  have h10 : nI j = 10 ↔ j = 10 := nI_eq (b := 10) (by omega) (by omega)
  have h16 : nI j = 16 ↔ j = 16 := nI_eq (b := 16) (by omega) (by omega)
  have h23 : nI j = 23 ↔ j = 23 := nI_eq (b := 23) (by omega) (by omega)
  by_cases e10 : j = 10
  · rw [if_pos (h10.mpr e10), if_pos e10, h20]; exact mf_put_lit k 21 (by omega) _ _
  rw [if_neg (fun q => e10 (h10.mp q)), if_neg e10]
  by_cases e16 : j = 16
  · rw [if_pos (h16.mpr e16), if_pos e16, cf_comm (k 20) 4]; exact mf_put_lit k 24 (by omega) _ _
  rw [if_neg (fun q => e16 (h16.mp q)), if_neg e16]
  by_cases e23 : j = 23
  · rw [if_pos (h23.mpr e23), if_pos e23]; exact mf_put_lit k 24 (by omega) _ _
  rw [if_neg (fun q => e23 (h23.mp q)), if_neg e23, mf_put_lit k j (by omega), cf_all, cf_keep_eq j hj e10 e16 e23]
theorem cf_upd_s (f : Nat → Int32) (j : Nat) (x : Int32) : upd f j x j = x := pk_us
theorem cf_upd_n (f : Nat → Int32) {i j : Nat} (x : Int32) (h : i ≠ j) : upd f j x i = f i := pk_un h
theorem cf_inv_put {k : Nat → Int32} (hi : cf_inv k) (v : Int32) {x : Int32} (hx : vp_in x 27) : cf_inv (cf_put k x v) := by
  obtain ⟨h20, h21, h24, h1⟩ := hi
  obtain ⟨j, hj, rfl⟩ := vp_in_of hx (by decide)
  rw [cf_put_nat k j (by omega) v]
  have m4 : (4 : Int32) &&& 1092 = 4 := by decide
  have f4 : (4 &&& k 20) &&& 1092 = 4 &&& k 20 := cf_sb2 4 h20
  by_cases e10 : j = 10
  · rw [if_pos e10]
    refine ⟨?_, ?_, ?_, ?_⟩
    · rw [cf_upd_n _ _ (by decide)]; exact h20
    · rw [cf_upd_s]; exact cf_sb3 (cf_sb1 _ h21) (cf_sb2 _ h20)
    · rw [cf_upd_n _ _ (by decide)]; exact h24
    · rw [cf_upd_n _ _ (by decide)]; exact h1
  rw [if_neg e10]
  by_cases e16 : j = 16
  · rw [if_pos e16]
    refine ⟨?_, ?_, ?_, ?_⟩
    · rw [cf_upd_n _ _ (by decide)]; exact h20
    · rw [cf_upd_n _ _ (by decide)]; exact h21
    · rw [cf_upd_s]; exact cf_sb3 (cf_sb1 _ h24) (cf_sb2 _ f4)
    · rw [cf_upd_n _ _ (by decide)]; exact h1
  rw [if_neg e16]
  by_cases e23 : j = 23
  · rw [if_pos e23]
    refine ⟨?_, ?_, ?_, ?_⟩
    · rw [cf_upd_n _ _ (by decide)]; exact h20
    · rw [cf_upd_n _ _ (by decide)]; exact h21
    · rw [cf_upd_s]; exact cf_sb3 (cf_sb1 _ h24) (cf_sb2 _ m4)
    · rw [cf_upd_n _ _ (by decide)]; exact h1
  rw [if_neg e23]
  have key : ∀ (i : Nat) (m : Int32), cf_keep i = m → k i &&& m = k i → upd k j (v &&& cf_keep j) i &&& m = upd k j (v &&& cf_keep j) i := by
    intro i m hm hk
    by_cases e : i = j
    · subst e
      rw [cf_upd_s, hm]
      exact cf_sb4 v m
    · rw [cf_upd_n _ _ e]
      exact hk
  exact ⟨key 20 1092 (by decide) h20, key 21 1092 (by decide) h21, key 24 1092 (by decide) h24, key 1 546 (by decide) h1⟩
theorem cf_inv_fill (k : Nat → Int32) : cf_inv (cf_fill k 0 29) := by
  have e : ∀ j, j < 29 → cf_fill k 0 29 j = 0 := fun j h => if_pos h
  unfold cf_inv
  rw [e 20 (by omega), e 21 (by omega), e 24 (by omega), e 1 (by omega)]
  decide
-- access
theorem cf_time_off {k : Nat → Int32} {md x w : Int32} (hw : ¬ w = 0) (h : cf_perm k md x w = 0) : ¬ x = 27 ∧ ¬ x = 28 := by
  constructor
  · intro e
    subst e
    unfold cf_perm at h
    rw [if_neg (by decide), if_neg hw, if_neg (by decide)] at h
    exact absurd h (by decide)
  · intro e
    subst e
    unfold cf_perm at h
    rw [if_neg (by decide), if_neg hw, if_neg (by decide)] at h
    exact absurd h (by decide)
theorem cf_perm_in {k : Nat → Int32} {md n w : Int32} (h : cf_perm k md (cf_slot n) w = 0) : vp_in (cf_slot n) 29 := by
  rcases cf_slot_rng n with q | q
  · rw [cf_perm, if_pos q] at h
    exact absurd h (by decide)
  · exact q
theorem cf_accR_eq (k : Nat → Int32) (md n kd : Int32) : mf_accR k md n kd = cf_accR k md n kd := by
  unfold mf_accR cf_accR
  by_cases h0 : kd < 0
  · rw [if_pos h0, if_pos h0]
  rw [if_neg h0, if_neg h0]
  by_cases h3 : kd ≤ 3
  · rw [if_pos h3, if_pos h3, cf_bit_eq h0, cf_place, cf_perm_eq k md _ (cf_slot_rng n)]
    have q := mf_ref_le k md (cf_slot n) (cf_bit kd)
    rw [cf_perm_eq k md _ (cf_slot_rng n)] at q
    by_cases e : cf_perm k md (cf_slot n) (cf_bit kd) = 0
    · rw [if_pos e, if_pos (q.mpr e)]
    · rw [if_neg e, if_neg (fun z => e (q.mp z))]
  · rw [if_neg h3, if_neg h3]
theorem cf_accO_eq {k : Nat → Int32} (hi : cf_inv k) (md : Int32) (tm al : Int64) (ln od n kd : Int32) : mf_accO k md tm al ln od n kd = cf_accO k md tm al ln od n kd := by
  unfold mf_accO cf_accO
  by_cases h0 : kd < 0
  · rw [if_pos h0, if_pos h0]
  rw [if_neg h0, if_neg h0]
  by_cases h3 : kd ≤ 3
  · rw [if_pos h3, if_pos h3, cf_bit_eq h0, cf_place, cf_perm_eq k md _ (cf_slot_rng n)]
    have q := mf_ref_le k md (cf_slot n) (cf_bit kd)
    rw [cf_perm_eq k md _ (cf_slot_rng n)] at q
    by_cases e : cf_perm k md (cf_slot n) (cf_bit kd) = 0
    · rw [if_pos e, if_pos (q.mpr e), cf_at_eq md (cf_perm_in e), cf_tell_eq hi tm al ln (cf_at_29 md (cf_perm_in e))]
    · rw [if_neg e, if_neg (fun z => e (q.mp z))]
  · rw [if_neg h3, if_neg h3]
theorem cf_accK_eq {k : Nat → Int32} (hi : cf_inv k) (md : Int32) (tm al : Int64) (ln n kd v : Int32) : mf_accK k md tm al ln n kd v = cf_accK k md tm al ln n kd v ∧ cf_inv (cf_accK k md tm al ln n kd v) := by
  unfold mf_accK cf_accK
  by_cases h0 : kd < 0
  · rw [if_pos h0, if_pos h0]; exact ⟨rfl, hi⟩
  rw [if_neg h0, if_neg h0]
  by_cases h3 : kd ≤ 3
  · rw [if_pos h3, if_pos h3, cf_bit_eq h0, cf_place, cf_perm_eq k md _ (cf_slot_rng n)]
    have q := mf_ref_le k md (cf_slot n) (cf_bit kd)
    rw [cf_perm_eq k md _ (cf_slot_rng n)] at q
    by_cases e : cf_perm k md (cf_slot n) (cf_bit kd) = 0
    · rw [if_pos e, if_pos (q.mpr e)]
      by_cases k0 : kd = 0
      · rw [if_pos k0, if_pos ((cf_kd h0).mpr k0)]; exact ⟨rfl, hi⟩
      · rw [if_neg k0, if_neg (fun z => k0 ((cf_kd h0).mp z)), cf_at_eq md (cf_perm_in e), cf_tell_eq hi tm al ln (cf_at_29 md (cf_perm_in e))]
        have hw : ¬ cf_bit kd = 0 := by unfold cf_bit; rw [if_neg k0]; decide
        have ht := cf_time_off hw e
        have hr := cf_at_rng md (cf_perm_in e) ht.1 ht.2
        exact ⟨cf_put_eq hi _ hr, cf_inv_put hi _ hr⟩
    · rw [if_neg e, if_neg (fun z => e (q.mp z))]; exact ⟨rfl, hi⟩
  · rw [if_neg h3, if_neg h3]; exact ⟨rfl, hi⟩
-- control, used
theorem cf_ctl_eq {k : Nat → Int32} (hi : cf_inv k) (tm al : Int64) (ln n : Int32) : mf_ctl k tm al ln n = cf_told k tm al ln (cf_slot n) := by
  unfold mf_ctl
  rw [cf_place]
  by_cases e : cf_slot n = -1
  · rw [if_pos e, e]
    unfold cf_told
    rw [if_neg (by decide), if_neg (by decide), if_neg (by decide), if_neg (by decide), if_neg (by decide), if_neg (by decide), if_pos (by decide)]
  · rw [if_neg e]
    exact cf_tell_eq hi tm al ln ((cf_slot_rng n).resolve_left e)
theorem cf_cnt_eq {f g : Nat → Int32} : ∀ i, (∀ j, j < i → g j = f j) → mf_cnt g i = cf_cnt f i := by
  intro i
  induction i with
  | zero => intro _; rfl
  | succ i ih =>
    intro h
    rw [mf_cnt, cf_cnt, h i (by omega), ih (fun j hj => h j (by omega))]
    by_cases e : f i = 0
    · rw [if_pos e, if_pos e, Int32.add_zero]
    · rw [if_neg e, if_neg e]
theorem cf_used_eq {k : Nat → Int32} (hi : cf_inv k) (tm al : Int64) (ln : Int32) : mf_used k tm al ln = cf_used k tm al ln := cf_cnt_eq 29 (fun j hj => cf_tell_eq hi tm al ln (vp_in_nI hj (by omega)))
-- due
theorem cf_fu (y : Int32) (b : Nat) (hb : b < 32) (P Q : Int32) : (if cf_ush y (nI b) &&& 1 = 0 then P else Q) = if bt y b = true then Q else P := by
  rw [cf_bu y b hb]
  cases bt y b
  · rfl
  · rfl
theorem cf_fm (y : Int32) (b : Nat) (hb : b < 32) (P Q : Int32) : (if (y >>> (nI b &&& 31)) &&& 1 = 1 then P else Q) = if bt y b = true then P else Q := by
  rw [cf_bs y b hb]
  cases bt y b
  · rfl
  · rfl
theorem cf_fS (y : Int32) : cf_fst cf_so y 0 6 = if bt y 9 = true then 9 else if bt y 1 = true then 1 else if bt y 5 = true then 5 else if bt y 10 = true then 10 else if bt y 2 = true then 2 else if bt y 6 = true then 6 else -1 := by
  show (if cf_ush y (nI 9) &&& 1 = 0 then (if cf_ush y (nI 1) &&& 1 = 0 then (if cf_ush y (nI 5) &&& 1 = 0 then (if cf_ush y (nI 10) &&& 1 = 0 then (if cf_ush y (nI 2) &&& 1 = 0 then (if cf_ush y (nI 6) &&& 1 = 0 then (-1 : Int32) else 6) else 2) else 10) else 5) else 1) else 9) = _
  rw [cf_fu y 9 (by omega), cf_fu y 1 (by omega), cf_fu y 5 (by omega), cf_fu y 10 (by omega), cf_fu y 2 (by omega), cf_fu y 6 (by omega)]
theorem cf_fV (y : Int32) : cf_fst cf_vo y 0 3 = if bt y 10 = true then 10 else if bt y 2 = true then 2 else if bt y 6 = true then 6 else -1 := by
  show (if cf_ush y (nI 10) &&& 1 = 0 then (if cf_ush y (nI 2) &&& 1 = 0 then (if cf_ush y (nI 6) &&& 1 = 0 then (-1 : Int32) else 6) else 2) else 10) = _
  rw [cf_fu y 10 (by omega), cf_fu y 2 (by omega), cf_fu y 6 (by omega)]
theorem cf_f3 (y : Int32) (a b d : Nat) (ha : a < 32) (hb : b < 32) (hd : d < 32) : mf_fst y (nI a) (nI b) (nI d) = if bt y a = true then nI a else if bt y b = true then nI b else if bt y d = true then nI d else -1 := by
  unfold mf_fst
  rw [cf_fm y a ha, cf_fm y b hb, cf_fm y d hd]
theorem cf_dV_eq (k : Nat → Int32) (md : Int32) : mf_dV k md = cf_dV k md := by
  have e : mf_dV1 k = cf_dV1 k := by
    unfold mf_dV1 cf_dV1
    rw [show mf_vi k = if bt (k 24 &&& k 21 &&& k 20) 10 = true then 10 else if bt (k 24 &&& k 21 &&& k 20) 2 = true then 2 else if bt (k 24 &&& k 21 &&& k 20) 6 = true then 6 else -1 from cf_f3 (k 24 &&& k 21 &&& k 20) 10 2 6 (by omega) (by omega) (by omega), cf_fV]
    cases bt (k 24 &&& k 21 &&& k 20) 10 <;> cases bt (k 24 &&& k 21 &&& k 20) 2 <;> cases bt (k 24 &&& k 21 &&& k 20) 6 <;> decide
  unfold mf_dV cf_dV
  rw [e]
  have q1 : mf_has k 9 1 = 0 ↔ bt (k 9) 1 = false := cf_has_eq k 9 1 (by omega)
  have q2 := cf_msk (k 9) 2 1 (by omega) cf_m2
  by_cases hb : bt (k 9) 1 = false
  · rw [if_pos (q1.mpr hb), if_pos (q2.mpr hb)]
  · rw [if_neg (fun q => hb (q1.mp q)), if_neg (fun q => hb (q2.mp q))]
theorem cf_due_eq {k : Nat → Int32} (hi : cf_inv k) (md : Int32) (tm al : Int64) (ln : Int32) : mf_due k md tm al ln = cf_due k md tm al ln := by
  obtain ⟨h20, h21, h24, h1⟩ := hi
  unfold mf_due cf_due
  rw [cf_dV_eq]
  have q1 : mf_has k 0 1 = 0 ↔ bt (k 0) 1 = false := cf_has_eq k 0 1 (by omega)
  have q2 := cf_msk (k 0) 2 1 (by omega) cf_m2
  have hS : mf_dS k md tm al ln = if cf_dS1 k tm al ln = -1 then cf_dV k md else cf_dS1 k tm al ln := by
    unfold mf_dS cf_dS1
    rw [cf_dV_eq]
    have e1 : mf_tell k tm al ln 7 = cf_pend k tm al ln := by
      unfold mf_tell
      rw [if_pos rfl, cf_pend_eq]
    have eo : mf_own k tm al ln = if bt (cf_pend k tm al ln &&& k 1) 9 = true then 9 else if bt (cf_pend k tm al ln &&& k 1) 1 = true then 1 else if bt (cf_pend k tm al ln &&& k 1) 5 = true then 5 else -1 := by
      unfold mf_own
      rw [e1]
      exact cf_f3 _ 9 1 5 (by omega) (by omega) (by omega)
    have eh : mf_hy k = if bt (k 24 &&& k 21 &&& (k 20 ^^^ -1)) 10 = true then 10 else if bt (k 24 &&& k 21 &&& (k 20 ^^^ -1)) 2 = true then 2 else if bt (k 24 &&& k 21 &&& (k 20 ^^^ -1)) 6 = true then 6 else -1 := cf_f3 _ 10 2 6 (by omega) (by omega) (by omega)
    rw [eo, eh, cf_fS]
    have z1 : ∀ i, bt 546 i = false → bt (cf_pend k tm al ln &&& k 1) i = false := fun i hm => by rw [b_and, cf_sbt h1 hm, Bool.and_false]
    have z2 : ∀ i, bt 1092 i = false → bt (k 24 &&& k 21 &&& (k 20 ^^^ -1)) i = false := fun i hm => by rw [b_and, b_and, cf_sbt h24 hm, Bool.false_and, Bool.false_and]
    simp only [b_or]
    rw [z1 10 (by decide +kernel), z1 2 (by decide +kernel), z1 6 (by decide +kernel), z2 9 (by decide +kernel), z2 1 (by decide +kernel), z2 5 (by decide +kernel)]
    simp only [Bool.or_false, Bool.false_or]
    generalize cf_dV k md = V
    cases bt (cf_pend k tm al ln &&& k 1) 9 <;> cases bt (cf_pend k tm al ln &&& k 1) 1 <;> cases bt (cf_pend k tm al ln &&& k 1) 5 <;> cases bt (k 24 &&& k 21 &&& (k 20 ^^^ -1)) 10 <;> cases bt (k 24 &&& k 21 &&& (k 20 ^^^ -1)) 2 <;> cases bt (k 24 &&& k 21 &&& (k 20 ^^^ -1)) 6 <;> first | rfl | simp
  rw [hS]
  unfold cf_dS
  by_cases m1 : md = 1
  · rw [if_pos m1, if_pos m1]
    by_cases hb : bt (k 0) 1 = false
    · rw [if_pos (q1.mpr hb), if_pos (q2.mpr hb), if_pos rfl]
    · rw [if_neg (fun q => hb (q1.mp q)), if_neg (fun q => hb (q2.mp q))]
  · rw [if_neg m1, if_neg m1]
