/-! WORDS FOR THE STATE, AND CALLS AND LOOPS IN THEM. cf_: the ControlFile; mf_: the reference (twin). -/
def cf_num (j : Nat) : Int32 := ([256, 260, 261, 320, 321, 322, 323, 324, 384, 512, 516, 517, 576, 577, 578, 579, 580, 640, 1536, 1538, 1539, 1540, 1603, 1604, 1605, 1610, 1664, 3073, 3201] : List Int32).getD j 0
def cf_keep (j : Nat) : Int32 := ([786722, 546, -3, -1, -4, -1, -1, 2, -2143289345, 786722, 0, -3, -1, -4, -1, -1, 0, -2143289345, 7340992, 45567, 1092, 1092, -1, 0, 1092, -1, -2143289348, 0, 0] : List Int32).getD j 0
def cf_so (j : Nat) : Int32 := ([9, 1, 5, 10, 2, 6] : List Int32).getD j 0
def cf_vo (j : Nat) : Int32 := ([10, 2, 6] : List Int32).getD j 0
/-- the four tables of the ControlFile: where they lie (z), what they hold, none of it in A -/
def cf_stat (A : Nat → Prop) (z : Nat → Nat) (U : State) (H : Heap) : Prop :=
  (va_Z RX0 "NUMBERS" "[I" (.ref (z 0)) A U H ∧ va_T .int (z 0) 29 (fun j => .int (cf_num j)) A U H) ∧
  (va_Z RX0 "KEEPS" "[I" (.ref (z 1)) A U H ∧ va_T .int (z 1) 29 (fun j => .int (cf_keep j)) A U H) ∧
  (va_Z RX0 "S_ORDER" "[I" (.ref (z 2)) A U H ∧ va_T .int (z 2) 6 (fun j => .int (cf_so j)) A U H) ∧
  (va_Z RX0 "VS_ORDER" "[I" (.ref (z 3)) A U H ∧ va_T .int (z 3) 3 (fun j => .int (cf_vo j)) A U H)
theorem cf_stat.moved {A : Nat → Prop} {z : Nat → Nat} {u U : State} {H : Heap} (hvm : u.vm.Alike U.vm) (h : cf_stat A z u H) : cf_stat A z U H :=
  ⟨⟨h.1.1.moved hvm, h.1.2.moved hvm⟩, ⟨h.2.1.1.moved hvm, h.2.1.2.moved hvm⟩, ⟨h.2.2.1.1.moved hvm, h.2.2.1.2.moved hvm⟩, ⟨h.2.2.2.1.moved hvm, h.2.2.2.2.moved hvm⟩⟩
theorem cf_stat.kept {A : Nat → Prop} {z : Nat → Nat} {U : State} {H H1 : Heap} (h : cf_stat A z U H) (hq : ∀ a : Nat, a < H.size → ¬ A a → H1[a]? = H[a]?) : cf_stat A z U H1 :=
  ⟨⟨h.1.1.kept hq, h.1.2.kept hq⟩, ⟨h.2.1.1.kept hq, h.2.1.2.kept hq⟩, ⟨h.2.2.1.1.kept hq, h.2.2.1.2.kept hq⟩, ⟨h.2.2.2.1.kept hq, h.2.2.2.2.kept hq⟩⟩
theorem cf_stat.narrow {A B : Nat → Prop} {z : Nat → Nat} {U : State} {H : Heap} (h : cf_stat A z U H) (hq : ∀ q, B q → A q) : cf_stat B z U H :=
  ⟨⟨h.1.1.narrow hq, h.1.2.narrow hq⟩, ⟨h.2.1.1.narrow hq, h.2.1.2.narrow hq⟩, ⟨h.2.2.1.1.narrow hq, h.2.2.1.2.narrow hq⟩, ⟨h.2.2.2.1.narrow hq, h.2.2.2.2.narrow hq⟩⟩
/-- the two cells of an object: ci its ControlFile in vwCl -/
abbrev cf_W (ci h0 h1 : Nat) (cA : ClassId) (k : Nat → Int32) (md : Int32) (tm al : Int64) (ln od : Int32) : va_W := [(h0, .inr (ci, [.ref h1, .int md, .long tm, .long al, .int ln, .int od])), (h1, .inl (cA, 29, .inl k))]
/-- the law's world: the ControlFile's object, the reference's, in one state -/
abbrev cf_L (q0 q1 : Nat) (cA : ClassId) (r0 r1 : Nat) (cB : ClassId) (k : Nat → Int32) (md : Int32) (tm al : Int64) (ln od : Int32) : va_W := [(q0, .inr (0, [.ref q1, .int md, .long tm, .long al, .int ln, .int od])), (q1, .inl (cA, 29, .inl k)), (r0, .inr (1, [.ref r1, .int md, .long tm, .long al, .int ln, .int od])), (r1, .inl (cB, 29, .inl k))]
/-- a reader's start -/
def cf_ro (av : List Value) (D : va_G) (wc : va_W) (tys : List (ClassId × FieldType)) (z : Nat → Nat) : Array Value → State → Prop := va_Pc av (fun U => va_P D vwCl wc U.heap ∧ va_K D vwCl tys U ∧ cf_stat (fun _ => False) z U U.heap)
theorem cf_ro_blind {av : List Value} {D : va_G} {wc : va_W} {tys : List (ClassId × FieldType)} {z : Nat → Nat} : FrameBlind (cf_ro av D wc tys z) := fun a U g mk q => by
  obtain ⟨q0, qP, qK, qZ⟩ := q
  exact ⟨q0, qP, va_K.moved (u := U) (U := U.calling g mk a) (Vm.Alike.refl U.vm) qK, cf_stat.moved (u := U) (U := U.calling g mk a) (Vm.Alike.refl U.vm) qZ⟩
theorem cf_ro_pre {av : List Value} {D : va_G} {wc : va_W} {tys : List (ClassId × FieldType)} {z : Nat → Nat} {A : Nat → Prop} {s : State} {H : Heap} {locs : List Loc} (hP : va_P D vwCl wc H) (hK : va_K D vwCl tys s) (hZ : cf_stat A z s s.heap) (hS : va_S A s.heap H locs) : ∀ U : State, U.heap = H → s.WarmedH U.vm → cf_ro av D wc tys z av.toArray U :=
  fun U hU hW => ⟨rfl, by rw [hU]; exact hP, va_K.moved hW.alike hK, by rw [hU]; exact cf_stat.moved hW.alike ((hZ.kept hS.2.1).narrow (fun _ h => h.elim))⟩
/-- a writer's start, its world behind it -/
def cf_wr (av : List Value) (D : va_G) (wc : va_W) (tys : List (ClassId × FieldType)) (sz : Nat) (z : Nat → Nat) : Array Value → State → Prop := va_Pc av (fun U => U.heap.size = sz ∧ va_P D vwCl wc U.heap ∧ va_K D vwCl tys U ∧ va_D (fun _ => True) wc ∧ cf_stat (va_A wc sz) z U U.heap)
theorem cf_wr_blind {av : List Value} {D : va_G} {wc : va_W} {tys : List (ClassId × FieldType)} {sz : Nat} {z : Nat → Nat} : FrameBlind (cf_wr av D wc tys sz z) := fun a U g mk q => by
  obtain ⟨q0, q1, qP, qK, qD, qZ⟩ := q
  exact ⟨q0, q1, qP, va_K.moved (u := U) (U := U.calling g mk a) (Vm.Alike.refl U.vm) qK, qD, cf_stat.moved (u := U) (U := U.calling g mk a) (Vm.Alike.refl U.vm) qZ⟩
theorem cf_wr_pre {av : List Value} {D : va_G} {wc : va_W} {tys : List (ClassId × FieldType)} {z : Nat → Nat} {A : Nat → Prop} {s : State} {H : Heap} {locs : List Loc} (hP : va_P D vwCl wc H) (hD : va_D A wc) (hK : va_K D vwCl tys s) (hZ : cf_stat A z s s.heap) (hS : va_S A s.heap H locs) (hF : ∀ q, va_A wc H.size q → A q) : ∀ U : State, U.heap = H → s.WarmedH U.vm → cf_wr av D wc tys H.size z av.toArray U :=
  fun U hU hW => ⟨rfl, by rw [hU], by rw [hU]; exact hP, va_K.moved hW.alike hK, hD.weaken (fun _ _ _ _ => trivial), by rw [hU]; exact cf_stat.moved hW.alike ((hZ.kept hS.2.1).narrow hF)⟩
def cf_B (D : va_G) (tys : List (ClassId × FieldType)) (A : Nat → Prop) (u : va_W) (t : State) : Prop := va_P D vwCl u t.heap ∧ va_K D vwCl tys t ∧ va_D A u
section CFK
variable {p : Program} {l : Launch} {e : Env} {R : Room} {s : State} {m : MethodId} {args : Array Value} {below : List Frame} {meth : Method} {c : Code} {H : Heap} {locs : List Loc} {cells slots : Nat} {Q : State → Prop}
variable {y : MethodName} {bytes cc : ByteArray} {maxL nL n index : Nat} {ret : Option FieldType} {ws : List Cond} {rm : Room} {Ts : List Cond} {own C : String} {b : Addr} {As rest st0 : List Value} {pc : Nat} {ls : Array Slot} {D : va_G} {w0 wc wr wF : va_W} {tys : List (ClassId × FieldType)} {z : Nat → Nat} {A : Nat → Prop} {ci q0 : Nat} {qc : vw_C} {fs : List Value}
/-- a reader of an object is called -/
theorem cf_callV {rF : Int32} (S : CallFix p m c cc nL s args Ts own) (hM : Met l y ws rm (cf_ro (.ref b :: As) D wc tys z) (vp_Si (fun r => r = rF)) 0 0 (fun _ => False)) (cw : CallW R s args own C index y bytes maxL ret ws rm 0 0 n)
    (hP : va_P D vwCl wc H) (hK : va_K D vwCl tys s) (hZ : cf_stat A z s s.heap) (hS : va_S A s.heap H locs) (hc : vwCl[ci]? = some qc) (hqC : qc.1 = C) (he : wc[q0]? = some (b, .inr (ci, fs)))
    (hn : As.length = n) (hsize : ls.size = nL) (hst : st0 = As.reverse ++ .ref b :: rest) (hW : (rest.map fun v => v.category).sum ≤ 8) (hdg : decode cc pc = .ok (.invokevirtual index, 3)) (hf : cells + 0 ≤ R.cells ∧ slots + 0 ≤ R.slots)
    (kk : W p l e R s m args below meth c H locs cells slots Q (F0 m (pc + 3) ls (.int rF :: rest))) : W p l e R s m args below meth c H locs cells slots Q (F0 m pc ls st0) := by
  subst hqC
  refine vp_callSi (W.runV (As := As) (rest := rest) S hM cw ⟨cf_ro_blind, va_recv hK hP hc he, cf_ro_pre hP hK hZ hS⟩ rfl hn hsize hst (lv_room hW) hdg hf) (fun r hr => ?_)
  have hr : r = rF := hr
  rw [hr]
  exact kk
/-- a static reader is called -/
theorem cf_callS {rF : Int32} (S : CallFix p m c cc nL s args Ts own) (hM : Met l y ws rm (cf_ro As D wc tys z) (vp_Si (fun r => r = rF)) 0 0 (fun _ => False)) (cw : CallB R s args own index y bytes maxL ret ws rm 0 0 n ∧ (Cond.static y).before args s = true)
    (hP : va_P D vwCl wc H) (hK : va_K D vwCl tys s) (hZ : cf_stat A z s s.heap) (hS : va_S A s.heap H locs)
    (hn : As.length = n) (hsize : ls.size = nL) (hst : st0 = As.reverse ++ rest) (hW : (rest.map fun v => v.category).sum ≤ 8) (hdg : decode cc pc = .ok (.invokestatic index, 3)) (hf : cells + 0 ≤ R.cells ∧ slots + 0 ≤ R.slots)
    (kk : W p l e R s m args below meth c H locs cells slots Q (F0 m (pc + 3) ls (.int rF :: rest))) : W p l e R s m args below meth c H locs cells slots Q (F0 m pc ls st0) := by
  refine vp_callSi (W.runS (As := As) (rest := rest) S hM cw ⟨cf_ro_blind, cf_ro_pre hP hK hZ hS⟩ rfl hn hsize hst (lv_room hW) hdg hf) (fun r hr => ?_)
  have hr : r = rF := hr
  rw [hr]
  exact kk
/-- a writer of an object is called: it answers an int -/
theorem cf_wcallI {rF : Int32} (S : CallFix p m c cc nL s args Ts own) (hM : Met l y ws rm (cf_wr (.ref b :: As) D wc tys H.size z) (va_Qi (fun r u => r = rF ∧ u = wF) (cf_B D tys (va_A wc H.size)) (va_A wc H.size)) 0 0 (va_A wc H.size)) (cw : CallW R s args own C index y bytes maxL ret ws rm 0 0 n)
    (hP : va_P D vwCl w0 H) (hD : va_D A w0) (hK : va_K D vwCl tys s) (hZ : cf_stat A z s s.heap) (hS : va_S A s.heap H locs) (hA : ∀ q, s.heap.size ≤ q → A q) (hPc : va_P D vwCl wc H) (isC isR : List Nat) (hC : isC.map (fun i => w0[i]?) = wc.map some) (hCn : va_nd isC = true) (hR : isR.map (fun i => w0[i]?) = wr.map some) (hRn : va_nd isR = true) (hdis : ∀ i ∈ isR, i ∉ isC)
    (hc : vwCl[ci]? = some qc) (hqC : qc.1 = C) (he : wc[q0]? = some (b, .inr (ci, fs)))
    (hn : As.length = n) (hsize : ls.size = nL) (hst : st0 = As.reverse ++ .ref b :: rest) (hW : (rest.map fun v => v.category).sum ≤ 8) (hdg : decode cc pc = .ok (.invokevirtual index, 3)) (hf : cells + 0 ≤ R.cells ∧ slots + 0 ≤ R.slots)
    (kk : ∀ (H1 : Heap) (locs1 : List Loc), va_P D vwCl (wr ++ wF) H1 → va_D A (wr ++ wF) → va_S A s.heap H1 locs1 → W p l e R s m args below meth c H1 locs1 cells slots Q (F0 m (pc + 3) ls (.int rF :: rest))) : W p l e R s m args below meth c H locs cells slots Q (F0 m pc ls st0) := by
  subst hqC
  have hF := va_free hD hS hA isC hC
  refine va_calli (va_runV (As := As) (rest := rest) S hM cw ⟨cf_wr_blind, va_recv hK hPc hc he, cf_wr_pre hPc (hD.sub isC hCn hC) hK hZ hS hF⟩ rfl hn hsize hst (lv_room hW) hdg hf) hS (fun q _ h => hF q h) hF (fun r u t H1 locs1 ht hvm hw hB hz1 hk1 hS1 => ?_)
  obtain ⟨hw1, hw2⟩ := hw
  obtain ⟨hP1, hK1, hD1⟩ := hB
  rw [ht] at hP1
  rw [hw2] at hP1 hD1
  obtain ⟨hP2, hD2⟩ := va_join (wr := wr) (w1 := wF) hP hD isC isR hC hR hRn hdis hk1 hF hP1 hD1
  rw [hw1]
  exact kk H1 locs1 hP2 hD2 hS1
/-- .. a long -/
theorem cf_wcallL {rF : Int64} (S : CallFix p m c cc nL s args Ts own) (hM : Met l y ws rm (cf_wr (.ref b :: As) D wc tys H.size z) (va_Ql (fun r u => r = rF ∧ u = wF) (cf_B D tys (va_A wc H.size)) (va_A wc H.size)) 0 0 (va_A wc H.size)) (cw : CallW R s args own C index y bytes maxL ret ws rm 0 0 n)
    (hP : va_P D vwCl w0 H) (hD : va_D A w0) (hK : va_K D vwCl tys s) (hZ : cf_stat A z s s.heap) (hS : va_S A s.heap H locs) (hA : ∀ q, s.heap.size ≤ q → A q) (hPc : va_P D vwCl wc H) (isC isR : List Nat) (hC : isC.map (fun i => w0[i]?) = wc.map some) (hCn : va_nd isC = true) (hR : isR.map (fun i => w0[i]?) = wr.map some) (hRn : va_nd isR = true) (hdis : ∀ i ∈ isR, i ∉ isC)
    (hc : vwCl[ci]? = some qc) (hqC : qc.1 = C) (he : wc[q0]? = some (b, .inr (ci, fs)))
    (hn : As.length = n) (hsize : ls.size = nL) (hst : st0 = As.reverse ++ .ref b :: rest) (hW : (rest.map fun v => v.category).sum ≤ 8) (hdg : decode cc pc = .ok (.invokevirtual index, 3)) (hf : cells + 0 ≤ R.cells ∧ slots + 0 ≤ R.slots)
    (kk : ∀ (H1 : Heap) (locs1 : List Loc), va_P D vwCl (wr ++ wF) H1 → va_D A (wr ++ wF) → va_S A s.heap H1 locs1 → W p l e R s m args below meth c H1 locs1 cells slots Q (F0 m (pc + 3) ls (.long rF :: rest))) : W p l e R s m args below meth c H locs cells slots Q (F0 m pc ls st0) := by
  subst hqC
  have hF := va_free hD hS hA isC hC
  refine va_calll (va_runV (As := As) (rest := rest) S hM cw ⟨cf_wr_blind, va_recv hK hPc hc he, cf_wr_pre hPc (hD.sub isC hCn hC) hK hZ hS hF⟩ rfl hn hsize hst (lv_room hW) hdg hf) hS (fun q _ h => hF q h) hF (fun r u t H1 locs1 ht hvm hw hB hz1 hk1 hS1 => ?_)
  obtain ⟨hw1, hw2⟩ := hw
  obtain ⟨hP1, hK1, hD1⟩ := hB
  rw [ht] at hP1
  rw [hw2] at hP1 hD1
  obtain ⟨hP2, hD2⟩ := va_join (wr := wr) (w1 := wF) hP hD isC isR hC hR hRn hdis hk1 hF hP1 hD1
  rw [hw1]
  exact kk H1 locs1 hP2 hD2 hS1
/-- .. nothing -/
theorem cf_wcallN (S : CallFix p m c cc nL s args Ts own) (hM : Met l y ws rm (cf_wr (.ref b :: As) D wc tys H.size z) (va_Qv (fun u => u = wF) (cf_B D tys (va_A wc H.size)) (va_A wc H.size)) 0 0 (va_A wc H.size)) (cw : CallW R s args own C index y bytes maxL ret ws rm 0 0 n)
    (hP : va_P D vwCl w0 H) (hD : va_D A w0) (hK : va_K D vwCl tys s) (hZ : cf_stat A z s s.heap) (hS : va_S A s.heap H locs) (hA : ∀ q, s.heap.size ≤ q → A q) (hPc : va_P D vwCl wc H) (isC isR : List Nat) (hC : isC.map (fun i => w0[i]?) = wc.map some) (hCn : va_nd isC = true) (hR : isR.map (fun i => w0[i]?) = wr.map some) (hRn : va_nd isR = true) (hdis : ∀ i ∈ isR, i ∉ isC)
    (hc : vwCl[ci]? = some qc) (hqC : qc.1 = C) (he : wc[q0]? = some (b, .inr (ci, fs)))
    (hn : As.length = n) (hsize : ls.size = nL) (hst : st0 = As.reverse ++ .ref b :: rest) (hW : (rest.map fun v => v.category).sum ≤ 8) (hdg : decode cc pc = .ok (.invokevirtual index, 3)) (hf : cells + 0 ≤ R.cells ∧ slots + 0 ≤ R.slots)
    (kk : ∀ (H1 : Heap) (locs1 : List Loc), va_P D vwCl (wr ++ wF) H1 → va_D A (wr ++ wF) → va_S A s.heap H1 locs1 → W p l e R s m args below meth c H1 locs1 cells slots Q (F0 m (pc + 3) ls rest)) : W p l e R s m args below meth c H locs cells slots Q (F0 m pc ls st0) := by
  subst hqC
  have hF := va_free hD hS hA isC hC
  refine va_callv (va_runV (As := As) (rest := rest) S hM cw ⟨cf_wr_blind, va_recv hK hPc hc he, cf_wr_pre hPc (hD.sub isC hCn hC) hK hZ hS hF⟩ rfl hn hsize hst (lv_room hW) hdg hf) hS (fun q _ h => hF q h) hF (fun u t H1 locs1 ht hvm hw hB hz1 hk1 hS1 => ?_)
  obtain ⟨hP1, hK1, hD1⟩ := hB
  rw [ht] at hP1
  rw [hw] at hP1 hD1
  obtain ⟨hP2, hD2⟩ := va_join (wr := wr) (w1 := wF) hP hD isC isR hC hR hRn hdis hk1 hF hP1 hD1
  exact kk H1 locs1 hP2 hD2 hS1
/-- a static writer is called: it answers nothing -/
theorem cf_wcallSN (S : CallFix p m c cc nL s args Ts own) (hM : Met l y ws rm (cf_wr As D wc tys H.size z) (va_Qv (fun u => u = wF) (cf_B D tys (va_A wc H.size)) (va_A wc H.size)) 0 0 (va_A wc H.size)) (cw : CallB R s args own index y bytes maxL ret ws rm 0 0 n ∧ (Cond.static y).before args s = true)
    (hP : va_P D vwCl w0 H) (hD : va_D A w0) (hK : va_K D vwCl tys s) (hZ : cf_stat A z s s.heap) (hS : va_S A s.heap H locs) (hA : ∀ q, s.heap.size ≤ q → A q) (hPc : va_P D vwCl wc H) (isC isR : List Nat) (hC : isC.map (fun i => w0[i]?) = wc.map some) (hCn : va_nd isC = true) (hR : isR.map (fun i => w0[i]?) = wr.map some) (hRn : va_nd isR = true) (hdis : ∀ i ∈ isR, i ∉ isC)
    (hn : As.length = n) (hsize : ls.size = nL) (hst : st0 = As.reverse ++ rest) (hW : (rest.map fun v => v.category).sum ≤ 8) (hdg : decode cc pc = .ok (.invokestatic index, 3)) (hf : cells + 0 ≤ R.cells ∧ slots + 0 ≤ R.slots)
    (kk : ∀ (H1 : Heap) (locs1 : List Loc), va_P D vwCl (wr ++ wF) H1 → va_D A (wr ++ wF) → va_S A s.heap H1 locs1 → W p l e R s m args below meth c H1 locs1 cells slots Q (F0 m (pc + 3) ls rest)) : W p l e R s m args below meth c H locs cells slots Q (F0 m pc ls st0) := by
  have hF := va_free hD hS hA isC hC
  refine va_callv (va_runS (As := As) (rest := rest) S hM cw ⟨cf_wr_blind, cf_wr_pre hPc (hD.sub isC hCn hC) hK hZ hS hF⟩ rfl hn hsize hst (lv_room hW) hdg hf) hS (fun q _ h => hF q h) hF (fun u t H1 locs1 ht hvm hw hB hz1 hk1 hS1 => ?_)
  obtain ⟨hP1, hK1, hD1⟩ := hB
  rw [ht] at hP1
  rw [hw] at hP1 hD1
  obtain ⟨hP2, hD2⟩ := va_join (wr := wr) (w1 := wF) hP hD isC isR hC hR hRn hdis hk1 hF hP1 hD1
  exact kk H1 locs1 hP2 hD2 hS1
/-- a constructor is called: one cell of 29 comes -/
theorem cf_icall {WN : Nat × ClassId → va_W} {ty0 : List (ClassId × FieldType)} (S : CallFix p m c cc nL s args Ts own) (hM : Met l y ws rm (cf_wr (.ref b :: As) D wc [] H.size z) (va_Qv (fun _ : Nat × ClassId => True) (fun u t => cf_B D [(u.2, .int)] (va_A wc H.size) (WN u) t) (va_A wc H.size)) 1 29 (va_A wc H.size)) (cw : CallB R s args own index y bytes maxL none ws rm 1 29 n ∧ y.name = "<init>" ∧ (Cond.instanceMethod y).before args s = true)
    (hP : va_P D vwCl w0 H) (hD : va_D A w0) (hK : va_K D vwCl ty0 s) (hZ : cf_stat A z s s.heap) (hS : va_S A s.heap H locs) (hA : ∀ q, s.heap.size ≤ q → A q) (hPc : va_P D vwCl wc H) (isC isR : List Nat) (hC : isC.map (fun i => w0[i]?) = wc.map some) (hCn : va_nd isC = true) (hR : isR.map (fun i => w0[i]?) = wr.map some) (hRn : va_nd isR = true) (hdis : ∀ i ∈ isR, i ∉ isC)
    (hn : As.length = n) (hsize : ls.size = nL) (hst : st0 = As.reverse ++ .ref b :: rest) (hW : (rest.map fun v => v.category).sum ≤ 8) (hdg : decode cc pc = .ok (.invokespecial index, 3)) (hf : cells + 1 ≤ R.cells ∧ slots + 29 ≤ R.slots)
    (kk : ∀ (h1 : Nat) (cA : ClassId) (H1 : Heap) (locs1 : List Loc), va_P D vwCl (wr ++ WN (h1, cA)) H1 → va_D A (wr ++ WN (h1, cA)) → va_K D vwCl (ty0 ++ [(cA, .int)]) s → va_S A s.heap H1 locs1 → W p l e R s m args below meth c H1 locs1 (cells + 1) (slots + 29) Q (F0 m (pc + 3) ls rest)) : W p l e R s m args below meth c H locs cells slots Q (F0 m pc ls st0) := by
  have hF := va_free hD hS hA isC hC
  refine va_callv (va_runI (As := As) (rest := rest) S hM cw ⟨cf_wr_blind, cf_wr_pre hPc (hD.sub isC hCn hC) (hK.sub (tys' := []) [] rfl) hZ hS hF⟩ rfl hn hsize hst (lv_room hW) hdg hf) hS (fun q _ h => hF q h) hF (fun u t H1 locs1 ht hvm hw hB hz1 hk1 hS1 => ?_)
  obtain ⟨h1, cA⟩ := u
  obtain ⟨hP1, hK1, hD1⟩ := hB
  rw [ht] at hP1
  obtain ⟨hP2, hD2⟩ := va_join (wr := wr) (w1 := WN (h1, cA)) hP hD isC isR hC hR hRn hdis hk1 hF hP1 hD1
  exact kk h1 cA H1 locs1 hP2 hD2 (hK.app (va_K.moved hvm.symm hK1)) hS1
/-- a reader's end -/
theorem cf_roEnd {v rF : Int32} (hx : p.tables.exec = Jvm.exec) (hb : c.code = cc) (hr : meth.sig.returnType = some .int) (hlocks : meth.locks = false) (hv : v = rF) (hdg : decode cc pc = .ok (.ireturn, 1)) : W p l e R s m args below meth c s.heap [] 0 0 (MQ below (vp_Si (fun r => r = rF)) args s 0 0 (fun _ => False)) (F0 m pc ls [.int v]) :=
  W.iret (v := v) hx hb hr (fun t ht _ => ⟨v, rfl, hv, ht⟩) (fun _ h => absurd h List.not_mem_nil) hdg hlocks
theorem cf_roEndZ {v rF : Int32} (hx : p.tables.exec = Jvm.exec) (hb : c.code = cc) (hr : meth.sig.returnType = some .boolean) (hlocks : meth.locks = false) (hn : narrow .boolean (.int v) = .int v) (hv : v = rF) (hdg : decode cc pc = .ok (.ireturn, 1)) : W p l e R s m args below meth c s.heap [] 0 0 (MQ below (vp_Si (fun r => r = rF)) args s 0 0 (fun _ => False)) (F0 m pc ls [.int v]) :=
  W.zret (v := v) hx hb hr hn (fun t ht _ => ⟨v, rfl, hv, ht⟩) (fun _ h => absurd h List.not_mem_nil) hdg hlocks
/-- a writer's end -/
theorem cf_wrEnd {v rF : Int32} {w : va_W} (hx : p.tables.exec = Jvm.exec) (hb : c.code = cc) (hr : meth.sig.returnType = some .int) (hlocks : meth.locks = false) (hP : va_P D vwCl w H) (hD : va_D A w) (hK : va_K D vwCl tys s) (hS : va_S A s.heap H locs) (hv : v = rF) (hw : w = wF) (hdg : decode cc pc = .ok (.ireturn, 1)) : W p l e R s m args below meth c H locs 0 0 (MQ below (va_Qi (fun r u => r = rF ∧ u = wF) (cf_B D tys A) A) args s 0 0 A) (F0 m pc ls [.int v]) :=
  W.iret (v := v) hx hb hr (fun t ht hW => ⟨⟨v, w, rfl, ⟨hv, hw⟩, by rw [ht]; exact hP, va_K.moved hW.alike hK, hD⟩, hS.F ht⟩) hS.2.2 hdg hlocks
theorem cf_wrEndZ {v rF : Int32} {w : va_W} (hx : p.tables.exec = Jvm.exec) (hb : c.code = cc) (hr : meth.sig.returnType = some .boolean) (hlocks : meth.locks = false) (hn : narrow .boolean (.int v) = .int v) (hP : va_P D vwCl w H) (hD : va_D A w) (hK : va_K D vwCl tys s) (hS : va_S A s.heap H locs) (hv : v = rF) (hw : w = wF) (hdg : decode cc pc = .ok (.ireturn, 1)) : W p l e R s m args below meth c H locs 0 0 (MQ below (va_Qi (fun r u => r = rF ∧ u = wF) (cf_B D tys A) A) args s 0 0 A) (F0 m pc ls [.int v]) :=
  W.zret (v := v) hx hb hr hn (fun t ht hW => ⟨⟨v, w, rfl, ⟨hv, hw⟩, by rw [ht]; exact hP, va_K.moved hW.alike hK, hD⟩, hS.F ht⟩) hS.2.2 hdg hlocks
theorem cf_wrEndL {v rF : Int64} {w : va_W} (hx : p.tables.exec = Jvm.exec) (hb : c.code = cc) (hr : meth.sig.returnType = some .long) (hlocks : meth.locks = false) (hP : va_P D vwCl w H) (hD : va_D A w) (hK : va_K D vwCl tys s) (hS : va_S A s.heap H locs) (hv : v = rF) (hw : w = wF) (hdg : decode cc pc = .ok (.lreturn, 1)) : W p l e R s m args below meth c H locs 0 0 (MQ below (va_Ql (fun r u => r = rF ∧ u = wF) (cf_B D tys A) A) args s 0 0 A) (F0 m pc ls [.long v]) :=
  W.lret (v := v) hx hb hr (fun t ht hW => ⟨⟨v, w, rfl, ⟨hv, hw⟩, by rw [ht]; exact hP, va_K.moved hW.alike hK, hD⟩, hS.F ht⟩) hS.2.2 hdg hlocks
theorem cf_wrEndN {w : va_W} (hx : p.tables.exec = Jvm.exec) (hb : c.code = cc) (hr : meth.sig.returnType = none) (hlocks : meth.locks = false) (hP : va_P D vwCl w H) (hD : va_D A w) (hK : va_K D vwCl tys s) (hS : va_S A s.heap H locs) (hw : w = wF) (hdg : decode cc pc = .ok (.return_, 1)) : W p l e R s m args below meth c H locs 0 0 (MQ below (va_Qv (fun u => u = wF) (cf_B D tys A) A) args s 0 0 A) (F0 m pc ls []) :=
  W.vret hx hb hr (fun t ht hW => ⟨⟨w, rfl, hw, by rw [ht]; exact hP, va_K.moved hW.alike hK, hD⟩, hS.F ht⟩) hS.2.2 hdg hlocks
/-- a place of the row of 29, by its number -/
theorem cf_ld {a : Nat} {cl : List vw_C} {cA : ClassId} {f : Nat → Int32} {i : Int32} (j : Nat) (hx : p.tables.exec = Jvm.exec) (hb : c.code = cc) (hK : va_K D cl tys s) (hP : va_P D cl w0 H) (q0 t0 : Nat) (ha : w0[q0]? = some (a, .inl (cA, 29, .inl f))) (ht : tys[t0]? = some (cA, .int)) (hi : i = nI j) (hj : j < 29) (hdg : decode cc pc = .ok (.iaload, 1))
    (kk : W p l e R s m args below meth c H locs cells slots Q (F0 m (pc + 1) ls (.int (f j) :: rest))) : W p l e R s m args below meth c H locs cells slots Q (F0 m pc ls (.int i :: .ref a :: rest)) := by
  subst hi
  refine va_iald hx hb hK hP q0 t0 ha ht (vp_in_nI hj (by omega)) hdg ?_
  rw [nI_clamp (by omega)]
  exact kk
/-- a join: what goes on behind two ways -/
theorem cf_join {g g1 : JFrame} (h : W p l e R s m args below meth c H locs cells slots Q g1) (k : W p l e R s m args below meth c H locs cells slots Q g1 → W p l e R s m args below meth c H locs cells slots Q g) : W p l e R s m args below meth c H locs cells slots Q g := k h
end CFK
/-- a loop of a reader, its counter from i up to N -/
theorem cf_ind {G : JFrame → Prop} {m : MethodId} {pc : Nat} (N : Nat) (I : Nat → Array Slot → Prop) (step : ∀ (i : Nat) (ls : Array Slot), i < N → I i ls → (∀ ls' : Array Slot, I (i + 1) ls' → G (F0 m pc ls' [])) → G (F0 m pc ls [])) (fin : ∀ ls : Array Slot, I N ls → G (F0 m pc ls [])) : ∀ (n i : Nat) (ls : Array Slot), N - i = n → i ≤ N → I i ls → G (F0 m pc ls []) := by
  intro n
  induction n with
  | zero =>
    intro i ls h1 h2 h3
    have e : i = N := by omega
    subst e
    exact fin ls h3
  | succ n ih =>
    intro i ls h1 h2 h3
    exact step i ls (by omega) h3 (fun ls' h => ih (i + 1) ls' (by omega) (by omega) h)
/-- .. of a writer -/
theorem cf_indH {G : Heap → List Loc → JFrame → Prop} {m : MethodId} {pc : Nat} (N : Nat) (I : Nat → Heap → List Loc → Array Slot → Prop) (step : ∀ (i : Nat) (H : Heap) (locs : List Loc) (ls : Array Slot), i < N → I i H locs ls → (∀ (H' : Heap) (locs' : List Loc) (ls' : Array Slot), I (i + 1) H' locs' ls' → G H' locs' (F0 m pc ls' [])) → G H locs (F0 m pc ls [])) (fin : ∀ (H : Heap) (locs : List Loc) (ls : Array Slot), I N H locs ls → G H locs (F0 m pc ls [])) : ∀ (n i : Nat) (H : Heap) (locs : List Loc) (ls : Array Slot), N - i = n → i ≤ N → I i H locs ls → G H locs (F0 m pc ls []) := by
  intro n
  induction n with
  | zero =>
    intro i H locs ls h1 h2 h3
    have e : i = N := by omega
    subst e
    exact fin H locs ls h3
  | succ n ih =>
    intro i H locs ls h1 h2 h3
    exact step i H locs ls (by omega) h3 (fun H' locs' ls' h => ih (i + 1) H' locs' ls' (by omega) (by omega) h)
theorem cf_ne {x a : Int32} {n : Int} (e : a.toInt = n) (h : ¬ x = a) : ¬ n = x.toInt := fun q => h (Int32.toInt_inj.mp (by rw [e, ← q]))
theorem cf_in {x : Int32} (h1 : ¬ x < 0) (h2 : ¬ (29 : Int32) ≤ x) : vp_in x 29 := by
  rw [vp_in_iff]
  rw [Int32.lt_iff_toInt_lt] at h1
  rw [Int32.le_iff_toInt_le] at h2
  have e0 : (0 : Int32).toInt = 0 := by decide
  have e29 : (29 : Int32).toInt = 29 := by decide
  omega
