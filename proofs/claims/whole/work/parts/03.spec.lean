/-! WHAT EACH METHOD ANSWERS, as functions of the state (k: the row of 29; md tm al ln od: mode, time, alarm, line, old), as its own lines have it. -/
def cf_ush (x y : Int32) : Int32 := (x.toUInt32 >>> (y.toUInt32 &&& Int32.toUInt32 31)).toInt32
def cf_lush (x : Int64) (y : Int32) : Int64 := (x.toUInt64 >>> (y.toInt64.toUInt64 &&& Int64.toUInt64 63)).toInt64
def cf_lsh (x : Int64) (y : Int32) : Int64 := x >>> (y.toInt64 &&& 63)
def cf_fill (f : Nat → Int32) (v : Int32) (n : Nat) : Nat → Int32 := fun j => if j < n then v else f j
theorem cf_fill_0 (f : Nat → Int32) (v : Int32) : cf_fill f v 0 = f := by funext j; simp [cf_fill]
theorem cf_fill_s (f : Nat → Int32) (v : Int32) (i : Nat) : upd (cf_fill f v i) i v = cf_fill f v (i + 1) := by
  funext j
  unfold upd cf_fill
  by_cases h : j = i
  · rw [if_pos h, if_pos (by omega)]
  · rw [if_neg h]
    by_cases h2 : j < i
    · rw [if_pos h2, if_pos (by omega)]
    · rw [if_neg h2, if_neg (by omega)]
theorem cf_n10 : ¬ (1 : Int32) = 0 := by decide
theorem cf_p00 : (0 : Int32) = 0 := rfl
-- the ControlFile
def cf_sl (n : Int32) : Nat → Nat → Int32
  | _, 0 => -1
  | i, r + 1 => if cf_num i = n then nI i else cf_sl n (i + 1) r
def cf_slot (n : Int32) : Int32 := cf_sl n 0 29
def cf_ofS (x : Int32) : Int32 := if x < 0 then 0 else if 9 ≤ x then 0 else 1
def cf_ofT (x : Int32) : Int32 := if x = 27 then 1 else if x = 28 then 1 else 0
def cf_trap (k : Nat → Int32) (x : Int32) : Int32 := if x = 8 then (if k 18 &&& 1048576 = 0 then 0 else 1) else 0
def cf_perm2 (k : Nat → Int32) (md x : Int32) : Int32 := if md = 1 then 0 else if cf_ofT x = 0 then (if md = 0 then 2 else if md = 3 then (if cf_ofS x = 0 then 22 else if cf_trap k x = 0 then 0 else 22) else 22) else 0
def cf_perm (k : Nat → Int32) (md x w : Int32) : Int32 := if x = -1 then 2 else if w = 0 then cf_perm2 k md x else if cf_ofT x = 0 then cf_perm2 k md x else 2
def cf_wrt (b kd v : Int32) : Int32 := if kd = 1 then v else if kd = 2 then b ||| v else b &&& (v ^^^ -1)
def cf_pend (k : Nat → Int32) (tm al : Int64) (ln : Int32) : Int32 := if lg_cmp tm al < 0 then (if ln = 0 then k 7 else k 7 ||| 512) else (if ln = 0 then k 7 ||| 32 else k 7 ||| 32 ||| 512)
def cf_told (k : Nat → Int32) (tm al : Int64) (ln x : Int32) : Int32 := if x = 7 then cf_pend k tm al ln else if x = 10 then cf_ush (k 21 &&& k 20) 1 else if x = 16 then cf_ush (k 24 &&& k 20) 1 else if x = 23 then k 24 else if x = 27 then tm.toInt32 else if x = 28 then (cf_lush tm 32).toInt32 else if x < 0 then 0 else if 29 ≤ x then 0 else k x.toNatClampNeg
def cf_putB (k : Nat → Int32) (x v b : Int32) : Nat → Int32 := if x < 0 then k else if 29 ≤ x then k else upd k x.toNatClampNeg ((k x.toNatClampNeg &&& (b ^^^ -1)) ||| (v &&& b))
def cf_put (k : Nat → Int32) (x v : Int32) : Nat → Int32 := if x = 10 then cf_putB k 21 (v <<< ((1 : Int32) &&& 31)) (k 20) else if x = 16 then cf_putB k 24 (v <<< ((1 : Int32) &&& 31)) (4 &&& k 20) else if x = 23 then cf_putB k 24 v 4 else if x < 0 then k else if 29 ≤ x then k else upd k x.toNatClampNeg (v &&& cf_keep x.toNatClampNeg)
def cf_at (md x : Int32) : Int32 := if md = 3 then (if cf_ofS x = 0 then x else x + 9) else x
def cf_bit (kd : Int32) : Int32 := if kd = 0 then 0 else 1
def cf_accR (k : Nat → Int32) (md n kd : Int32) : Int32 := if kd < 0 then -1 else if kd ≤ 3 then (if cf_perm k md (cf_slot n) (cf_bit kd) = 0 then 0 else cf_perm k md (cf_slot n) (cf_bit kd)) else -1
def cf_accO (k : Nat → Int32) (md : Int32) (tm al : Int64) (ln od n kd : Int32) : Int32 := if kd < 0 then od else if kd ≤ 3 then (if cf_perm k md (cf_slot n) (cf_bit kd) = 0 then cf_told k tm al ln (cf_at md (cf_slot n)) else od) else od
def cf_accK (k : Nat → Int32) (md : Int32) (tm al : Int64) (ln n kd v : Int32) : Nat → Int32 := if kd < 0 then k else if kd ≤ 3 then (if cf_perm k md (cf_slot n) (cf_bit kd) = 0 then (if kd = 0 then k else cf_put k (cf_at md (cf_slot n)) (cf_wrt (cf_told k tm al ln (cf_at md (cf_slot n))) kd v)) else k) else k
def cf_cnt (f : Nat → Int32) : Nat → Int32
  | 0 => 0
  | i + 1 => if f i = 0 then cf_cnt f i else cf_cnt f i + 1
def cf_tf (k : Nat → Int32) (tm al : Int64) (ln : Int32) (j : Nat) : Int32 := cf_told k tm al ln (nI j)
def cf_used (k : Nat → Int32) (tm al : Int64) (ln : Int32) : Int32 := cf_cnt (cf_tf k tm al ln) 29
def cf_fst (f : Nat → Int32) (x : Int32) : Nat → Nat → Int32
  | _, 0 => -1
  | i, r + 1 => if cf_ush x (f i) &&& 1 = 0 then cf_fst f x (i + 1) r else f i
def cf_dS1 (k : Nat → Int32) (tm al : Int64) (ln : Int32) : Int32 := cf_fst cf_so ((cf_pend k tm al ln &&& k 1) ||| (k 24 &&& k 21 &&& (k 20 ^^^ -1))) 0 6
def cf_dS (k : Nat → Int32) (md : Int32) (tm al : Int64) (ln : Int32) : Int32 := if md = 1 then (if k 0 &&& 2 = 0 then -1 else cf_dS1 k tm al ln) else cf_dS1 k tm al ln
def cf_dV1 (k : Nat → Int32) : Int32 := if cf_fst cf_vo (k 24 &&& k 21 &&& k 20) 0 3 = -1 then -1 else cf_fst cf_vo (k 24 &&& k 21 &&& k 20) 0 3 + 99
def cf_dV (k : Nat → Int32) (md : Int32) : Int32 := if md = 2 then cf_dV1 k else if md = 3 then (if k 9 &&& 2 = 0 then -1 else cf_dV1 k) else -1
def cf_due (k : Nat → Int32) (md : Int32) (tm al : Int64) (ln : Int32) : Int32 := if cf_dS k md tm al ln = -1 then cf_dV k md else cf_dS k md tm al ln
-- both: mode, time, alarm
def cf_mdR (md x : Int32) : Int32 := if x < 0 then -1 else if x ≤ 3 then md else -1
def cf_mdM (md x : Int32) : Int32 := if x < 0 then md else if x ≤ 3 then x else md
def cf_tmR (tm t : Int64) : Int64 := if 0 ≤ lg_cmp t 0 then tm else -1
def cf_tmM (tm t : Int64) : Int64 := if 0 ≤ lg_cmp t 0 then t else tm
def cf_alM (t : Int64) : Int64 := if 0 ≤ lg_cmp t 0 then t else 9223372036854775807
-- the reference
def mf_kind (x : Int32) : Int32 := if x = 0 then 0 else if x = 4 then 1 else if x = 5 then 2 else if x = 64 then x - 64 + 3 else if x = 65 then x - 64 + 3 else if x = 66 then x - 64 + 3 else if x = 67 then x - 64 + 3 else if x = 68 then x - 64 + 3 else if x = 128 then 8 else -1
def mf_hyp (x : Int32) : Int32 := if x = 1536 then 18 else if x = 1538 then 19 else if x = 1539 then 20 else if x = 1540 then 21 else if x = 1603 then 22 else if x = 1604 then 23 else if x = 1605 then 24 else if x = 1610 then 25 else if x = 1664 then 26 else if x = 3073 then 27 else if x = 3201 then 28 else -1
def mf_place (n : Int32) : Int32 := if n >>> ((8 : Int32) &&& 31) = 1 then (if mf_kind (n &&& 255) = -1 then -1 else mf_kind (n &&& 255)) else if n >>> ((8 : Int32) &&& 31) = 2 then (if mf_kind (n &&& 255) = -1 then -1 else 9 + mf_kind (n &&& 255)) else mf_hyp n
def mf_has (k : Nat → Int32) (j : Nat) (b : Int32) : Int32 := if (k j >>> (b &&& 31)) &&& 1 = 1 then 1 else 0
def mf_pend (k : Nat → Int32) (tm al : Int64) (ln : Int32) : Int32 := k 7 ||| (if lg_cmp tm al < 0 then 0 else 32) ||| (if ln = 0 then 0 else 512)
def mf_tell (k : Nat → Int32) (tm al : Int64) (ln x : Int32) : Int32 := if x = 7 then mf_pend k tm al ln else if x = 10 then (k 21 &&& k 20) >>> ((1 : Int32) &&& 31) else if x = 16 then (k 24 &&& k 20) >>> ((1 : Int32) &&& 31) else if x = 23 then k 24 else if x = 27 then tm.toInt32 else if x = 28 then (cf_lsh tm 32).toInt32 else k x.toNatClampNeg
def mf_put (k : Nat → Int32) (x b v : Int32) : Nat → Int32 := upd k x.toNatClampNeg ((k x.toNatClampNeg &&& (b ^^^ -1)) ||| (v &&& b))
def mf_mask (x : Int32) : Int32 := ([786722, 546, -3, -1, -4, -1, -1, 2, -2143289345, 786722, -1, -3, -1, -4, -1, -1, -1, -2143289345, 7340992, 45567, 1092, 1092, -1, -1, 1092, -1, -2143289348] : List Int32).getD x.toNatClampNeg (-1)
def mf_write (k : Nat → Int32) (x v : Int32) : Nat → Int32 := if x = 10 then mf_put k 21 (k 20 &&& 1092) (v <<< ((1 : Int32) &&& 31)) else if x = 16 then mf_put k 24 (k 20 &&& 4) (v <<< ((1 : Int32) &&& 31)) else if x = 23 then mf_put k 24 4 v else mf_put k x (-1) (v &&& mf_mask x)
def mf_ref2 (k : Nat → Int32) (md x : Int32) : Int32 := if md = 0 then 2 else if md = 3 then (if 8 < x then 22 else if x = 8 then (if mf_has k 18 20 = 0 then 0 else 22) else 0) else 22
def mf_ref (k : Nat → Int32) (md x w : Int32) : Int32 := if x = -1 then 2 else if cf_ofT x = 0 then (if md = 1 then 0 else mf_ref2 k md x) else if w = 0 then 0 else 2
def mf_at (md x : Int32) : Int32 := if md = 3 then (if 8 < x then x else x + 9) else x
def mf_bit (kd : Int32) : Int32 := if kd ≤ 0 then 0 else 1
def mf_accR (k : Nat → Int32) (md n kd : Int32) : Int32 := if kd < 0 then -1 else if kd ≤ 3 then (if mf_ref k md (mf_place n) (mf_bit kd) ≤ 0 then 0 else mf_ref k md (mf_place n) (mf_bit kd)) else -1
def mf_accO (k : Nat → Int32) (md : Int32) (tm al : Int64) (ln od n kd : Int32) : Int32 := if kd < 0 then od else if kd ≤ 3 then (if mf_ref k md (mf_place n) (mf_bit kd) ≤ 0 then mf_tell k tm al ln (mf_at md (mf_place n)) else od) else od
def mf_accK (k : Nat → Int32) (md : Int32) (tm al : Int64) (ln n kd v : Int32) : Nat → Int32 := if kd < 0 then k else if kd ≤ 3 then (if mf_ref k md (mf_place n) (mf_bit kd) ≤ 0 then (if kd ≤ 0 then k else mf_write k (mf_at md (mf_place n)) (cf_wrt (mf_tell k tm al ln (mf_at md (mf_place n))) kd v)) else k) else k
def mf_ctl (k : Nat → Int32) (tm al : Int64) (ln n : Int32) : Int32 := if mf_place n = -1 then 0 else mf_tell k tm al ln (mf_place n)
def mf_cnt (f : Nat → Int32) : Nat → Int32
  | 0 => 0
  | i + 1 => if f i = 0 then mf_cnt f i + 0 else mf_cnt f i + 1
def mf_tf (k : Nat → Int32) (tm al : Int64) (ln : Int32) (j : Nat) : Int32 := mf_tell k tm al ln (nI j)
def mf_used (k : Nat → Int32) (tm al : Int64) (ln : Int32) : Int32 := mf_cnt (mf_tf k tm al ln) 29
def mf_fst (x a b c : Int32) : Int32 := if (x >>> (a &&& 31)) &&& 1 = 1 then a else if (x >>> (b &&& 31)) &&& 1 = 1 then b else if (x >>> (c &&& 31)) &&& 1 = 1 then c else -1
def mf_own (k : Nat → Int32) (tm al : Int64) (ln : Int32) : Int32 := mf_fst (mf_tell k tm al ln 7 &&& k 1) 9 1 5
def mf_hy (k : Nat → Int32) : Int32 := mf_fst (k 24 &&& k 21 &&& (k 20 ^^^ -1)) 10 2 6
def mf_vi (k : Nat → Int32) : Int32 := mf_fst (k 24 &&& k 21 &&& k 20) 10 2 6
def mf_dV1 (k : Nat → Int32) : Int32 := if mf_vi k = -1 then -1 else 100 + mf_vi k - 1
def mf_dV (k : Nat → Int32) (md : Int32) : Int32 := if md = 2 then mf_dV1 k else if md = 3 then (if mf_has k 9 1 = 0 then -1 else mf_dV1 k) else -1
def mf_dS (k : Nat → Int32) (md : Int32) (tm al : Int64) (ln : Int32) : Int32 := if mf_own k tm al ln = -1 then (if mf_hy k = -1 then mf_dV k md else mf_hy k) else mf_own k tm al ln
def mf_due (k : Nat → Int32) (md : Int32) (tm al : Int64) (ln : Int32) : Int32 := if md = 1 then (if mf_has k 0 1 = 0 then mf_dV k md else mf_dS k md tm al ln) else mf_dS k md tm al ln
