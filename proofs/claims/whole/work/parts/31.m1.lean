set_option maxHeartbeats 4000000 in
set_option maxRecDepth 100000 in
/-- in -/
theorem ms_in (l : Launch) (dC : Nat → ClassId) (dI : Nat → Nat → Nat) (cJ cI cZ : Nat) (x : Int64) (a : Int64) (b : Int64) : Met l yn_M_in ws_M_in ({ frames := 0, cells := 0, slots := 0, locals := 0 }) (va_Pc [.long x, .long a, .long b] (fun _ => True)) (k2_QcV (.int (sp_within x a b))) 0 0 (fun _ => False) := by
  refine Met.ofW (cc := by_M_in) (maxL := 6) (ret := (some .boolean)) (by decide) rfl ?_
  intro p e s m args below meth c s₁ B hml hv
  obtain ⟨rfl, -⟩ := hv
  have hx := B.exec
  have hb := B.bytes
  have hr := B.returns
  have hts := fun (w : Cond) (h : w ∈ lw_gt) => atoms_spec (ws := ws_M_in) B.pre w (List.mem_cons_of_mem _ h)
  have hown : s.vm.findClass rn_M = some m.cls := findClass_of_methodNamed B.named
  have hlocks := B.notSynchronized
  have hl := lv_entry ([.long x, .long a, .long b]) (n := 6) (Nat.le_of_ble_eq_true rfl)
  rw [lg_entry_eq]
  generalize (lg_sl ([.long x, .long a, .long b]) ++ List.replicate (6 - (lg_sl ([.long x, .long a, .long b])).length) Slot.unset).toArray = ls at hl ⊢
  have hl : lv_has ls 6 [(0, .long x), (2, .long a), (4, .long b)] := hl
  refine lv_lload_n hx hb de_M_in_0 rfl (lv_at hl 0 rfl) ?_
  refine lv_lload_n hx hb de_M_in_1 rfl (lv_at hl 1 rfl) ?_
  refine W.lcmp hx hb de_M_in_2 ?_
  refine lv_if_lt (tgt := 17) hx hb de_M_in_3 (by decide) (fun c_1 => ?_) (fun c_1 => ?_)
  · have c_1 := (lg_cmp_lt _ _).mp c_1
    refine lv_iconst (v := 0) hx hb de_M_in_17 (by decide) ?_
    exact W.zret (v := 0) hx hb hr rfl (fun t9 ht9 hW9 => ⟨congrArg (fun z => Outcome.returned (some (Value.int z))) (show 0 = (sp_within x a b) from by simp only [sp_within, if_pos c_1]), ht9⟩) (fun _ h => nomatch h) de_M_in_18
  · have c_1 := mt (lg_cmp_lt _ _).mpr c_1
    refine lv_lload_n hx hb de_M_in_6 rfl (lv_at hl 0 rfl) ?_
    refine lv_lload hx hb de_M_in_7 (lv_at hl 2 rfl) ?_
    refine W.lcmp hx hb de_M_in_9 ?_
    refine lv_if_gt (tgt := 17) hx hb de_M_in_10 (by decide) (fun c_2 => ?_) (fun c_2 => ?_)
    · have c_2 := (lg_cmp_gt _ _).mp c_2
      refine lv_iconst (v := 0) hx hb de_M_in_17 (by decide) ?_
      exact W.zret (v := 0) hx hb hr rfl (fun t9 ht9 hW9 => ⟨congrArg (fun z => Outcome.returned (some (Value.int z))) (show 0 = (sp_within x a b) from by simp only [sp_within, if_neg c_1, if_pos c_2]), ht9⟩) (fun _ h => nomatch h) de_M_in_18
    · have c_2 := mt (lg_cmp_gt _ _).mpr c_2
      refine lv_iconst (v := 1) hx hb de_M_in_13 (by decide) ?_
      refine lv_goto (tgt := 18) hx hb de_M_in_14 (by decide) ?_
      exact W.zret (v := 1) hx hb hr rfl (fun t9 ht9 hW9 => ⟨congrArg (fun z => Outcome.returned (some (Value.int z))) (show 1 = (sp_within x a b) from by simp only [sp_within, if_neg c_1, if_neg c_2]), ht9⟩) (fun _ h => nomatch h) de_M_in_18
set_option maxHeartbeats 4000000 in
set_option maxRecDepth 100000 in
/-- near -/
theorem ms_near (l : Launch) (dC : Nat → ClassId) (dI : Nat → Nat → Nat) (cJ cI cZ : Nat) (a : Int64) (b : Int64) (hb0 : ¬ b = 0) : Met l yn_M_near ws_M_near ({ frames := 0, cells := 0, slots := 0, locals := 0 }) (va_Pc [.long a, .long b] (fun _ => True)) (k2_QcV (.long (sm_near a b))) 0 0 (fun _ => False) := by
  refine Met.ofW (cc := by_M_near) (maxL := 4) (ret := (some .long)) (by decide) rfl ?_
  intro p e s m args below meth c s₁ B hml hv
  obtain ⟨rfl, -⟩ := hv
  have hx := B.exec
  have hb := B.bytes
  have hr := B.returns
  have hts := fun (w : Cond) (h : w ∈ lw_gt) => atoms_spec (ws := ws_M_near) B.pre w (List.mem_cons_of_mem _ h)
  have hown : s.vm.findClass rn_M = some m.cls := findClass_of_methodNamed B.named
  have hlocks := B.notSynchronized
  have hl := lv_entry ([.long a, .long b]) (n := 4) (Nat.le_of_ble_eq_true rfl)
  rw [lg_entry_eq]
  generalize (lg_sl ([.long a, .long b]) ++ List.replicate (4 - (lg_sl ([.long a, .long b])).length) Slot.unset).toArray = ls at hl ⊢
  have hl : lv_has ls 4 [(0, .long a), (2, .long b)] := hl
  refine lv_lload_n hx hb de_M_near_0 rfl (lv_at hl 0 rfl) ?_
  refine lv_lload_n hx hb de_M_near_1 rfl (lv_at hl 1 rfl) ?_
  refine lv_ldiv hx hb de_M_near_2 hb0 ?_
  refine lv_ldc2 (v := 2) hx hb hown (hts _ wd_768) de_M_near_3 ?_
  refine lv_lload_n hx hb de_M_near_6 rfl (lv_at hl 0 rfl) ?_
  refine lv_lload_n hx hb de_M_near_7 rfl (lv_at hl 1 rfl) ?_
  refine lv_lrem hx hb de_M_near_8 hb0 ?_
  refine lv_lmul hx hb de_M_near_9 ?_
  refine lv_lload_n hx hb de_M_near_10 rfl (lv_at hl 1 rfl) ?_
  refine W.lcmp hx hb de_M_near_11 ?_
  refine lv_if_lt (tgt := 19) hx hb de_M_near_12 (by decide) (fun c_1 => ?_) (fun c_1 => ?_)
  · have c_1 := (lg_cmp_lt _ _).mp c_1
    refine lv_lconst (v := 0) hx hb de_M_near_19 (by decide) ?_
    refine lv_ladd hx hb de_M_near_20 ?_
    exact W.lret (v := (a / b) + 0) hx hb hr (fun t9 ht9 hW9 => ⟨congrArg (fun z => Outcome.returned (some (Value.long z))) (show ((a / b) + 0) = (sm_near a b) from by simp only [sm_near, if_pos c_1]), ht9⟩) (fun _ h => nomatch h) de_M_near_21
  · have c_1 := mt (lg_cmp_lt _ _).mpr c_1
    refine lv_lconst (v := 1) hx hb de_M_near_15 (by decide) ?_
    refine lv_goto (tgt := 20) hx hb de_M_near_16 (by decide) ?_
    refine lv_ladd hx hb de_M_near_20 ?_
    exact W.lret (v := (a / b) + 1) hx hb hr (fun t9 ht9 hW9 => ⟨congrArg (fun z => Outcome.returned (some (Value.long z))) (show ((a / b) + 1) = (sm_near a b) from by simp only [sm_near, if_neg c_1]), ht9⟩) (fun _ h => nomatch h) de_M_near_21
set_option maxHeartbeats 4000000 in
set_option maxRecDepth 100000 in
/-- thrown -/
theorem mo_thrown (l : Launch) (dC : Nat → ClassId) (dI : Nat → Nat → Nat) (cJ cI cZ : Nat) (h : Nat) (xthrown : Int32) (xlines : Nat) (xrows : Nat) (xweightSum : Int64) (xpriceSum : Int64) (hweight : Nat) (hprice : Nat) (hisTold : Nat) (hcents : Nat) (hbyWeights : Nat) (hrowDays : Nat) (hrowThousandths : Nat) (xday : Nat) (xpaid : Nat) (hup : Nat) (hdown : Nat) (hcondition : Nat) (hhasFigures : Nat) (hfigureA : Nat) (hfigureB : Nat) (xisRelated : Int32) (xisTurned : Int32) (xtest : Int64) (xband : Int32) : Met l yn_M_thrown ws_M_thrown ({ frames := 0, cells := 0, slots := 0, locals := 0 }) (va_Pc [.ref h] (qv_ro (dC, dI) cls_t [(h, .inr (5, [.int xthrown, .int (nI xlines), .int (nI xrows), .long xweightSum, .long xpriceSum, .ref hweight, .ref hprice, .ref hisTold, .ref hcents, .ref hbyWeights, .ref hrowDays, .ref hrowThousandths, .int (nI xday), .int (nI xpaid), .ref hup, .ref hdown, .ref hcondition, .ref hhasFigures, .ref hfigureA, .ref hfigureB, .int xisRelated, .int xisTurned, .long xtest, .int xband]))] [(cJ, .long), (cI, .int), (cZ, .boolean)])) (k2_QcV (.int xthrown)) 0 0 (fun _ => False) := by
  refine Met.ofW (cc := by_M_thrown) (maxL := 1) (ret := (some .int)) (by decide) rfl ?_
  intro p e s m args below meth c s₁ B hml hv
  obtain ⟨rfl, hP, hK⟩ := hv
  have hx := B.exec
  have hb := B.bytes
  have hr := B.returns
  have hts := fun (w : Cond) (h : w ∈ lw_gt) => atoms_spec (ws := ws_M_thrown) B.pre w (List.mem_cons_of_mem _ h)
  have hown : s.vm.findClass rn_M = some m.cls := findClass_of_methodNamed B.named
  have hlocks := B.notSynchronized
  have hP : va_P (dC, dI) cls_t [(h, .inr (5, [.int xthrown, .int (nI xlines), .int (nI xrows), .long xweightSum, .long xpriceSum, .ref hweight, .ref hprice, .ref hisTold, .ref hcents, .ref hbyWeights, .ref hrowDays, .ref hrowThousandths, .int (nI xday), .int (nI xpaid), .ref hup, .ref hdown, .ref hcondition, .ref hhasFigures, .ref hfigureA, .ref hfigureB, .int xisRelated, .int xisTurned, .long xtest, .int xband]))] s.heap := hP
  have hl := lv_entry ([.ref h]) (n := 1) (Nat.le_of_ble_eq_true rfl)
  rw [lg_entry_eq]
  generalize (lg_sl ([.ref h]) ++ List.replicate (1 - (lg_sl ([.ref h])).length) Slot.unset).toArray = ls at hl ⊢
  have hl : lv_has ls 1 [(0, .ref h)] := hl
  refine lv_aload_n hx hb de_M_thrown_0 rfl (lv_at hl 0 rfl) ?_
  refine va_get (D := (dC, dI)) (ci := 5) (v := .int xthrown) (C := rn_M) (T := tf_M) (N := 24) hx hb hts in_M hown hK hP 0 rfl rfl 0 (by decide) (hts _ wd_643) (fun _ h9 => h9) rfl de_M_thrown_1 ?_
  exact W.iret (v := xthrown) hx hb hr (fun t9 ht9 hW9 => ⟨congrArg (fun z => Outcome.returned (some (Value.int z))) rfl, ht9⟩) (fun _ h => nomatch h) de_M_thrown_4
set_option maxHeartbeats 4000000 in
set_option maxRecDepth 100000 in
/-- weights -/
theorem mo_weights (l : Launch) (dC : Nat → ClassId) (dI : Nat → Nat → Nat) (cJ cI cZ : Nat) (h : Nat) (xthrown : Int32) (xlines : Nat) (xrows : Nat) (xweightSum : Int64) (xpriceSum : Int64) (hweight : Nat) (hprice : Nat) (hisTold : Nat) (hcents : Nat) (hbyWeights : Nat) (hrowDays : Nat) (hrowThousandths : Nat) (xday : Nat) (xpaid : Nat) (hup : Nat) (hdown : Nat) (hcondition : Nat) (hhasFigures : Nat) (hfigureA : Nat) (hfigureB : Nat) (xisRelated : Int32) (xisTurned : Int32) (xtest : Int64) (xband : Int32) : Met l yn_M_weights ws_M_weights ({ frames := 0, cells := 0, slots := 0, locals := 0 }) (va_Pc [.ref h] (qv_ro (dC, dI) cls_t [(h, .inr (5, [.int xthrown, .int (nI xlines), .int (nI xrows), .long xweightSum, .long xpriceSum, .ref hweight, .ref hprice, .ref hisTold, .ref hcents, .ref hbyWeights, .ref hrowDays, .ref hrowThousandths, .int (nI xday), .int (nI xpaid), .ref hup, .ref hdown, .ref hcondition, .ref hhasFigures, .ref hfigureA, .ref hfigureB, .int xisRelated, .int xisTurned, .long xtest, .int xband]))] [(cJ, .long), (cI, .int), (cZ, .boolean)])) (k2_QcV (.long xweightSum)) 0 0 (fun _ => False) := by
  refine Met.ofW (cc := by_M_weights) (maxL := 1) (ret := (some .long)) (by decide) rfl ?_
  intro p e s m args below meth c s₁ B hml hv
  obtain ⟨rfl, hP, hK⟩ := hv
  have hx := B.exec
  have hb := B.bytes
  have hr := B.returns
  have hts := fun (w : Cond) (h : w ∈ lw_gt) => atoms_spec (ws := ws_M_weights) B.pre w (List.mem_cons_of_mem _ h)
  have hown : s.vm.findClass rn_M = some m.cls := findClass_of_methodNamed B.named
  have hlocks := B.notSynchronized
  have hP : va_P (dC, dI) cls_t [(h, .inr (5, [.int xthrown, .int (nI xlines), .int (nI xrows), .long xweightSum, .long xpriceSum, .ref hweight, .ref hprice, .ref hisTold, .ref hcents, .ref hbyWeights, .ref hrowDays, .ref hrowThousandths, .int (nI xday), .int (nI xpaid), .ref hup, .ref hdown, .ref hcondition, .ref hhasFigures, .ref hfigureA, .ref hfigureB, .int xisRelated, .int xisTurned, .long xtest, .int xband]))] s.heap := hP
  have hl := lv_entry ([.ref h]) (n := 1) (Nat.le_of_ble_eq_true rfl)
  rw [lg_entry_eq]
  generalize (lg_sl ([.ref h]) ++ List.replicate (1 - (lg_sl ([.ref h])).length) Slot.unset).toArray = ls at hl ⊢
  have hl : lv_has ls 1 [(0, .ref h)] := hl
  refine lv_aload_n hx hb de_M_weights_0 rfl (lv_at hl 0 rfl) ?_
  refine va_get (D := (dC, dI)) (ci := 5) (v := .long xweightSum) (C := rn_M) (T := tf_M) (N := 24) hx hb hts in_M hown hK hP 0 rfl rfl 3 (by decide) (hts _ wd_646) (fun _ h9 => h9) rfl de_M_weights_1 ?_
  exact W.lret (v := xweightSum) hx hb hr (fun t9 ht9 hW9 => ⟨congrArg (fun z => Outcome.returned (some (Value.long z))) rfl, ht9⟩) (fun _ h => nomatch h) de_M_weights_4
set_option maxHeartbeats 4000000 in
set_option maxRecDepth 100000 in
/-- prices -/
theorem mo_prices (l : Launch) (dC : Nat → ClassId) (dI : Nat → Nat → Nat) (cJ cI cZ : Nat) (h : Nat) (xthrown : Int32) (xlines : Nat) (xrows : Nat) (xweightSum : Int64) (xpriceSum : Int64) (hweight : Nat) (hprice : Nat) (hisTold : Nat) (hcents : Nat) (hbyWeights : Nat) (hrowDays : Nat) (hrowThousandths : Nat) (xday : Nat) (xpaid : Nat) (hup : Nat) (hdown : Nat) (hcondition : Nat) (hhasFigures : Nat) (hfigureA : Nat) (hfigureB : Nat) (xisRelated : Int32) (xisTurned : Int32) (xtest : Int64) (xband : Int32) : Met l yn_M_prices ws_M_prices ({ frames := 0, cells := 0, slots := 0, locals := 0 }) (va_Pc [.ref h] (qv_ro (dC, dI) cls_t [(h, .inr (5, [.int xthrown, .int (nI xlines), .int (nI xrows), .long xweightSum, .long xpriceSum, .ref hweight, .ref hprice, .ref hisTold, .ref hcents, .ref hbyWeights, .ref hrowDays, .ref hrowThousandths, .int (nI xday), .int (nI xpaid), .ref hup, .ref hdown, .ref hcondition, .ref hhasFigures, .ref hfigureA, .ref hfigureB, .int xisRelated, .int xisTurned, .long xtest, .int xband]))] [(cJ, .long), (cI, .int), (cZ, .boolean)])) (k2_QcV (.long xpriceSum)) 0 0 (fun _ => False) := by
  refine Met.ofW (cc := by_M_prices) (maxL := 1) (ret := (some .long)) (by decide) rfl ?_
  intro p e s m args below meth c s₁ B hml hv
  obtain ⟨rfl, hP, hK⟩ := hv
  have hx := B.exec
  have hb := B.bytes
  have hr := B.returns
  have hts := fun (w : Cond) (h : w ∈ lw_gt) => atoms_spec (ws := ws_M_prices) B.pre w (List.mem_cons_of_mem _ h)
  have hown : s.vm.findClass rn_M = some m.cls := findClass_of_methodNamed B.named
  have hlocks := B.notSynchronized
  have hP : va_P (dC, dI) cls_t [(h, .inr (5, [.int xthrown, .int (nI xlines), .int (nI xrows), .long xweightSum, .long xpriceSum, .ref hweight, .ref hprice, .ref hisTold, .ref hcents, .ref hbyWeights, .ref hrowDays, .ref hrowThousandths, .int (nI xday), .int (nI xpaid), .ref hup, .ref hdown, .ref hcondition, .ref hhasFigures, .ref hfigureA, .ref hfigureB, .int xisRelated, .int xisTurned, .long xtest, .int xband]))] s.heap := hP
  have hl := lv_entry ([.ref h]) (n := 1) (Nat.le_of_ble_eq_true rfl)
  rw [lg_entry_eq]
  generalize (lg_sl ([.ref h]) ++ List.replicate (1 - (lg_sl ([.ref h])).length) Slot.unset).toArray = ls at hl ⊢
  have hl : lv_has ls 1 [(0, .ref h)] := hl
  refine lv_aload_n hx hb de_M_prices_0 rfl (lv_at hl 0 rfl) ?_
  refine va_get (D := (dC, dI)) (ci := 5) (v := .long xpriceSum) (C := rn_M) (T := tf_M) (N := 24) hx hb hts in_M hown hK hP 0 rfl rfl 4 (by decide) (hts _ wd_647) (fun _ h9 => h9) rfl de_M_prices_1 ?_
  exact W.lret (v := xpriceSum) hx hb hr (fun t9 ht9 hW9 => ⟨congrArg (fun z => Outcome.returned (some (Value.long z))) rfl, ht9⟩) (fun _ h => nomatch h) de_M_prices_4
set_option maxHeartbeats 4000000 in
set_option maxRecDepth 100000 in
/-- partOf -/
theorem mo_partOf (l : Launch) (dC : Nat → ClassId) (dI : Nat → Nat → Nat) (cJ cI cZ : Nat) (h : Nat) (xthrown : Int32) (xlines : Nat) (xrows : Nat) (xweightSum : Int64) (xpriceSum : Int64) (hweight : Nat) (hprice : Nat) (hisTold : Nat) (hcents : Nat) (hbyWeights : Nat) (hrowDays : Nat) (hrowThousandths : Nat) (xday : Nat) (xpaid : Nat) (hup : Nat) (hdown : Nat) (hcondition : Nat) (hhasFigures : Nat) (hfigureA : Nat) (hfigureB : Nat) (xisRelated : Int32) (xisTurned : Int32) (xtest : Int64) (xband : Int32) (fweight : Nat → Int64) (fprice : Nat → Int64) (k : Nat) (bw : Int32) (hk : k < 40) : Met l yn_M_partOf ws_M_partOf ({ frames := 1, cells := 0, slots := 0, locals := 20 }) (va_Pc [.ref h, .int (nI k), .int bw] (qv_ro (dC, dI) cls_t [(h, .inr (5, [.int xthrown, .int (nI xlines), .int (nI xrows), .long xweightSum, .long xpriceSum, .ref hweight, .ref hprice, .ref hisTold, .ref hcents, .ref hbyWeights, .ref hrowDays, .ref hrowThousandths, .int (nI xday), .int (nI xpaid), .ref hup, .ref hdown, .ref hcondition, .ref hhasFigures, .ref hfigureA, .ref hfigureB, .int xisRelated, .int xisTurned, .long xtest, .int xband])), (hweight, .inl (cJ, 40, .inr (.inl fweight))), (hprice, .inl (cJ, 40, .inr (.inl fprice)))] [(cJ, .long), (cI, .int), (cZ, .boolean)])) (k2_QcV (.long (sm_part fweight fprice xweightSum xpriceSum bw k))) 0 0 (fun _ => False) := by
  refine Met.ofW (cc := by_M_partOf) (maxL := 3) (ret := (some .long)) (by decide) rfl ?_
  intro p e s m args below meth c s₁ B hml hv
  obtain ⟨rfl, hP, hK⟩ := hv
  have hx := B.exec
  have hb := B.bytes
  have hr := B.returns
  have hts := fun (w : Cond) (h : w ∈ lw_gt) => atoms_spec (ws := ws_M_partOf) B.pre w (List.mem_cons_of_mem _ h)
  have hown : s.vm.findClass rn_M = some m.cls := findClass_of_methodNamed B.named
  have hlocks := B.notSynchronized
  have hP : va_P (dC, dI) cls_t [(h, .inr (5, [.int xthrown, .int (nI xlines), .int (nI xrows), .long xweightSum, .long xpriceSum, .ref hweight, .ref hprice, .ref hisTold, .ref hcents, .ref hbyWeights, .ref hrowDays, .ref hrowThousandths, .int (nI xday), .int (nI xpaid), .ref hup, .ref hdown, .ref hcondition, .ref hhasFigures, .ref hfigureA, .ref hfigureB, .int xisRelated, .int xisTurned, .long xtest, .int xband])), (hweight, .inl (cJ, 40, .inr (.inl fweight))), (hprice, .inl (cJ, 40, .inr (.inl fprice)))] s.heap := hP
  have hl := lv_entry ([.ref h, .int (nI k), .int bw]) (n := 3) (Nat.le_of_ble_eq_true rfl)
  rw [lg_entry_eq]
  generalize (lg_sl ([.ref h, .int (nI k), .int bw]) ++ List.replicate (3 - (lg_sl ([.ref h, .int (nI k), .int bw])).length) Slot.unset).toArray = ls at hl ⊢
  have hl : lv_has ls 3 [(0, .ref h), (1, .int (nI k)), (2, .int bw)] := hl
  refine lv_iload_n hx hb de_M_partOf_0 rfl (lv_at hl 2 rfl) ?_
  refine lv_if_eq (tgt := 22) hx hb de_M_partOf_1 (by decide) (fun c_1 => ?_) (fun c_1 => ?_)
  · refine lv_aload_n hx hb de_M_partOf_22 rfl (lv_at hl 0 rfl) ?_
    refine qv_callR (As := []) (rest := []) ⟨hx, hb, hml, hown, hts⟩ (mo_prices l dC dI cJ cI cZ h xthrown xlines xrows xweightSum xpriceSum hweight hprice hisTold hcents hbyWeights hrowDays hrowThousandths xday xpaid hup hdown hcondition hhasFigures hfigureA hfigureB xisRelated xisTurned xtest xband) (cwV 0 hts (gd_V wd_806 wd_808 wd_26 wd_47 wd_809) rfl rfl rfl (by decide +kernel) ⟨Nat.le_of_ble_eq_true rfl, Nat.le_of_ble_eq_true rfl⟩) hK hP [0] rfl rfl rfl rfl hl.1 rfl (Nat.le_of_ble_eq_true rfl) de_M_partOf_23 ⟨Nat.zero_le _, Nat.zero_le _⟩ ?_
    refine lv_lconst (v := 0) hx hb de_M_partOf_26 (by decide) ?_
    refine W.lcmp hx hb de_M_partOf_27 ?_
    refine lv_if_le (tgt := 40) hx hb de_M_partOf_28 (by decide) (fun c_2 => ?_) (fun c_2 => ?_)
    · have c_2 := (lg_cmp_le _ _).mp c_2
      refine lv_lconst (v := 1) hx hb de_M_partOf_40 (by decide) ?_
      exact W.lret (v := 1) hx hb hr (fun t9 ht9 hW9 => ⟨congrArg (fun z => Outcome.returned (some (Value.long z))) (show 1 = (sm_part fweight fprice xweightSum xpriceSum bw k) from by simp only [sm_part, if_pos c_1, if_pos c_2]), ht9⟩) (fun _ h => nomatch h) de_M_partOf_41
    · have c_2 := mt (lg_cmp_le _ _).mpr c_2
      refine lv_aload_n hx hb de_M_partOf_31 rfl (lv_at hl 0 rfl) ?_
      refine va_get (D := (dC, dI)) (ci := 5) (v := .ref hprice) (C := rn_M) (T := tf_M) (N := 24) hx hb hts in_M hown hK hP 0 rfl rfl 6 (by decide) (hts _ wd_649) (fun _ h9 => h9) rfl de_M_partOf_32 ?_
      refine lv_iload_n hx hb de_M_partOf_35 rfl (lv_at hl 1 rfl) ?_
      refine qv_lald (k := k) hx hb hK hP 2 0 rfl rfl (by omega) (by omega) de_M_partOf_36 ?_
      refine lv_goto (tgt := 41) hx hb de_M_partOf_37 (by decide) ?_
      exact W.lret (v := fprice k) hx hb hr (fun t9 ht9 hW9 => ⟨congrArg (fun z => Outcome.returned (some (Value.long z))) (show (fprice k) = (sm_part fweight fprice xweightSum xpriceSum bw k) from by simp only [sm_part, if_pos c_1, if_neg c_2]), ht9⟩) (fun _ h => nomatch h) de_M_partOf_41
  · refine lv_aload_n hx hb de_M_partOf_4 rfl (lv_at hl 0 rfl) ?_
    refine qv_callR (As := []) (rest := []) ⟨hx, hb, hml, hown, hts⟩ (mo_weights l dC dI cJ cI cZ h xthrown xlines xrows xweightSum xpriceSum hweight hprice hisTold hcents hbyWeights hrowDays hrowThousandths xday xpaid hup hdown hcondition hhasFigures hfigureA hfigureB xisRelated xisTurned xtest xband) (cwV 0 hts (gd_V wd_825 wd_827 wd_30 wd_47 wd_828) rfl rfl rfl (by decide +kernel) ⟨Nat.le_of_ble_eq_true rfl, Nat.le_of_ble_eq_true rfl⟩) hK hP [0] rfl rfl rfl rfl hl.1 rfl (Nat.le_of_ble_eq_true rfl) de_M_partOf_5 ⟨Nat.zero_le _, Nat.zero_le _⟩ ?_
    refine lv_lconst (v := 0) hx hb de_M_partOf_8 (by decide) ?_
    refine W.lcmp hx hb de_M_partOf_9 ?_
    refine lv_if_le (tgt := 22) hx hb de_M_partOf_10 (by decide) (fun c_3 => ?_) (fun c_3 => ?_)
    · have c_3 := (lg_cmp_le _ _).mp c_3
      refine lv_aload_n hx hb de_M_partOf_22 rfl (lv_at hl 0 rfl) ?_
      refine qv_callR (As := []) (rest := []) ⟨hx, hb, hml, hown, hts⟩ (mo_prices l dC dI cJ cI cZ h xthrown xlines xrows xweightSum xpriceSum hweight hprice hisTold hcents hbyWeights hrowDays hrowThousandths xday xpaid hup hdown hcondition hhasFigures hfigureA hfigureB xisRelated xisTurned xtest xband) (cwV 0 hts (gd_V wd_806 wd_808 wd_26 wd_47 wd_809) rfl rfl rfl (by decide +kernel) ⟨Nat.le_of_ble_eq_true rfl, Nat.le_of_ble_eq_true rfl⟩) hK hP [0] rfl rfl rfl rfl hl.1 rfl (Nat.le_of_ble_eq_true rfl) de_M_partOf_23 ⟨Nat.zero_le _, Nat.zero_le _⟩ ?_
      refine lv_lconst (v := 0) hx hb de_M_partOf_26 (by decide) ?_
      refine W.lcmp hx hb de_M_partOf_27 ?_
      refine lv_if_le (tgt := 40) hx hb de_M_partOf_28 (by decide) (fun c_4 => ?_) (fun c_4 => ?_)
      · have c_4 := (lg_cmp_le _ _).mp c_4
        refine lv_lconst (v := 1) hx hb de_M_partOf_40 (by decide) ?_
        exact W.lret (v := 1) hx hb hr (fun t9 ht9 hW9 => ⟨congrArg (fun z => Outcome.returned (some (Value.long z))) (show 1 = (sm_part fweight fprice xweightSum xpriceSum bw k) from by simp only [sm_part, if_neg c_1, if_pos c_3, if_pos c_4]), ht9⟩) (fun _ h => nomatch h) de_M_partOf_41
      · have c_4 := mt (lg_cmp_le _ _).mpr c_4
        refine lv_aload_n hx hb de_M_partOf_31 rfl (lv_at hl 0 rfl) ?_
        refine va_get (D := (dC, dI)) (ci := 5) (v := .ref hprice) (C := rn_M) (T := tf_M) (N := 24) hx hb hts in_M hown hK hP 0 rfl rfl 6 (by decide) (hts _ wd_649) (fun _ h9 => h9) rfl de_M_partOf_32 ?_
        refine lv_iload_n hx hb de_M_partOf_35 rfl (lv_at hl 1 rfl) ?_
        refine qv_lald (k := k) hx hb hK hP 2 0 rfl rfl (by omega) (by omega) de_M_partOf_36 ?_
        refine lv_goto (tgt := 41) hx hb de_M_partOf_37 (by decide) ?_
        exact W.lret (v := fprice k) hx hb hr (fun t9 ht9 hW9 => ⟨congrArg (fun z => Outcome.returned (some (Value.long z))) (show (fprice k) = (sm_part fweight fprice xweightSum xpriceSum bw k) from by simp only [sm_part, if_neg c_1, if_pos c_3, if_neg c_4]), ht9⟩) (fun _ h => nomatch h) de_M_partOf_41
    · have c_3 := mt (lg_cmp_le _ _).mpr c_3
      refine lv_aload_n hx hb de_M_partOf_13 rfl (lv_at hl 0 rfl) ?_
      refine va_get (D := (dC, dI)) (ci := 5) (v := .ref hweight) (C := rn_M) (T := tf_M) (N := 24) hx hb hts in_M hown hK hP 0 rfl rfl 5 (by decide) (hts _ wd_648) (fun _ h9 => h9) rfl de_M_partOf_14 ?_
      refine lv_iload_n hx hb de_M_partOf_17 rfl (lv_at hl 1 rfl) ?_
      refine qv_lald (k := k) hx hb hK hP 1 0 rfl rfl (by omega) (by omega) de_M_partOf_18 ?_
      refine lv_goto (tgt := 41) hx hb de_M_partOf_19 (by decide) ?_
      exact W.lret (v := fweight k) hx hb hr (fun t9 ht9 hW9 => ⟨congrArg (fun z => Outcome.returned (some (Value.long z))) (show (fweight k) = (sm_part fweight fprice xweightSum xpriceSum bw k) from by simp only [sm_part, if_neg c_1, if_neg c_3]), ht9⟩) (fun _ h => nomatch h) de_M_partOf_41
set_option maxHeartbeats 4000000 in
set_option maxRecDepth 100000 in
/-- whole -/
theorem mo_whole (l : Launch) (dC : Nat → ClassId) (dI : Nat → Nat → Nat) (cJ cI cZ : Nat) (h : Nat) (xthrown : Int32) (xlines : Nat) (xrows : Nat) (xweightSum : Int64) (xpriceSum : Int64) (hweight : Nat) (hprice : Nat) (hisTold : Nat) (hcents : Nat) (hbyWeights : Nat) (hrowDays : Nat) (hrowThousandths : Nat) (xday : Nat) (xpaid : Nat) (hup : Nat) (hdown : Nat) (hcondition : Nat) (hhasFigures : Nat) (hfigureA : Nat) (hfigureB : Nat) (xisRelated : Int32) (xisTurned : Int32) (xtest : Int64) (xband : Int32) (bw : Int32) : Met l yn_M_whole ws_M_whole ({ frames := 1, cells := 0, slots := 0, locals := 20 }) (va_Pc [.ref h, .int bw] (qv_ro (dC, dI) cls_t [(h, .inr (5, [.int xthrown, .int (nI xlines), .int (nI xrows), .long xweightSum, .long xpriceSum, .ref hweight, .ref hprice, .ref hisTold, .ref hcents, .ref hbyWeights, .ref hrowDays, .ref hrowThousandths, .int (nI xday), .int (nI xpaid), .ref hup, .ref hdown, .ref hcondition, .ref hhasFigures, .ref hfigureA, .ref hfigureB, .int xisRelated, .int xisTurned, .long xtest, .int xband]))] [(cJ, .long), (cI, .int), (cZ, .boolean)])) (k2_QcV (.long (sm_whole xweightSum xpriceSum xlines bw))) 0 0 (fun _ => False) := by
  refine Met.ofW (cc := by_M_whole) (maxL := 2) (ret := (some .long)) (by decide) rfl ?_
  intro p e s m args below meth c s₁ B hml hv
  obtain ⟨rfl, hP, hK⟩ := hv
  have hx := B.exec
  have hb := B.bytes
  have hr := B.returns
  have hts := fun (w : Cond) (h : w ∈ lw_gt) => atoms_spec (ws := ws_M_whole) B.pre w (List.mem_cons_of_mem _ h)
  have hown : s.vm.findClass rn_M = some m.cls := findClass_of_methodNamed B.named
  have hlocks := B.notSynchronized
  have hP : va_P (dC, dI) cls_t [(h, .inr (5, [.int xthrown, .int (nI xlines), .int (nI xrows), .long xweightSum, .long xpriceSum, .ref hweight, .ref hprice, .ref hisTold, .ref hcents, .ref hbyWeights, .ref hrowDays, .ref hrowThousandths, .int (nI xday), .int (nI xpaid), .ref hup, .ref hdown, .ref hcondition, .ref hhasFigures, .ref hfigureA, .ref hfigureB, .int xisRelated, .int xisTurned, .long xtest, .int xband]))] s.heap := hP
  have hl := lv_entry ([.ref h, .int bw]) (n := 2) (Nat.le_of_ble_eq_true rfl)
  rw [lg_entry_eq]
  generalize (lg_sl ([.ref h, .int bw]) ++ List.replicate (2 - (lg_sl ([.ref h, .int bw])).length) Slot.unset).toArray = ls at hl ⊢
  have hl : lv_has ls 2 [(0, .ref h), (1, .int bw)] := hl
  refine lv_iload_n hx hb de_M_whole_0 rfl (lv_at hl 1 rfl) ?_
  refine lv_if_eq (tgt := 20) hx hb de_M_whole_1 (by decide) (fun c_1 => ?_) (fun c_1 => ?_)
  · refine lv_aload_n hx hb de_M_whole_20 rfl (lv_at hl 0 rfl) ?_
    refine qv_callR (As := []) (rest := []) ⟨hx, hb, hml, hown, hts⟩ (mo_prices l dC dI cJ cI cZ h xthrown xlines xrows xweightSum xpriceSum hweight hprice hisTold hcents hbyWeights hrowDays hrowThousandths xday xpaid hup hdown hcondition hhasFigures hfigureA hfigureB xisRelated xisTurned xtest xband) (cwV 0 hts (gd_V wd_806 wd_808 wd_26 wd_47 wd_809) rfl rfl rfl (by decide +kernel) ⟨Nat.le_of_ble_eq_true rfl, Nat.le_of_ble_eq_true rfl⟩) hK hP [0] rfl rfl rfl rfl hl.1 rfl (Nat.le_of_ble_eq_true rfl) de_M_whole_21 ⟨Nat.zero_le _, Nat.zero_le _⟩ ?_
    refine lv_lconst (v := 0) hx hb de_M_whole_24 (by decide) ?_
    refine W.lcmp hx hb de_M_whole_25 ?_
    refine lv_if_le (tgt := 36) hx hb de_M_whole_26 (by decide) (fun c_2 => ?_) (fun c_2 => ?_)
    · have c_2 := (lg_cmp_le _ _).mp c_2
      refine lv_aload_n hx hb de_M_whole_36 rfl (lv_at hl 0 rfl) ?_
      refine va_get (D := (dC, dI)) (ci := 5) (v := .int (nI xlines)) (C := rn_M) (T := tf_M) (N := 24) hx hb hts in_M hown hK hP 0 rfl rfl 1 (by decide) (hts _ wd_644) (fun _ h9 => h9) rfl de_M_whole_37 ?_
      refine lv_i2l (v := (nI xlines).toInt64) hx hb de_M_whole_40 rfl ?_
      exact W.lret (v := (nI xlines).toInt64) hx hb hr (fun t9 ht9 hW9 => ⟨congrArg (fun z => Outcome.returned (some (Value.long z))) (show ((nI xlines).toInt64) = (sm_whole xweightSum xpriceSum xlines bw) from by simp only [sm_whole, if_pos c_1, if_pos c_2]), ht9⟩) (fun _ h => nomatch h) de_M_whole_41
    · have c_2 := mt (lg_cmp_le _ _).mpr c_2
      refine lv_aload_n hx hb de_M_whole_29 rfl (lv_at hl 0 rfl) ?_
      refine qv_callR (As := []) (rest := []) ⟨hx, hb, hml, hown, hts⟩ (mo_prices l dC dI cJ cI cZ h xthrown xlines xrows xweightSum xpriceSum hweight hprice hisTold hcents hbyWeights hrowDays hrowThousandths xday xpaid hup hdown hcondition hhasFigures hfigureA hfigureB xisRelated xisTurned xtest xband) (cwV 0 hts (gd_V wd_806 wd_808 wd_26 wd_47 wd_809) rfl rfl rfl (by decide +kernel) ⟨Nat.le_of_ble_eq_true rfl, Nat.le_of_ble_eq_true rfl⟩) hK hP [0] rfl rfl rfl rfl hl.1 rfl (Nat.le_of_ble_eq_true rfl) de_M_whole_30 ⟨Nat.zero_le _, Nat.zero_le _⟩ ?_
      refine lv_goto (tgt := 41) hx hb de_M_whole_33 (by decide) ?_
      exact W.lret (v := xpriceSum) hx hb hr (fun t9 ht9 hW9 => ⟨congrArg (fun z => Outcome.returned (some (Value.long z))) (show xpriceSum = (sm_whole xweightSum xpriceSum xlines bw) from by simp only [sm_whole, if_pos c_1, if_neg c_2]), ht9⟩) (fun _ h => nomatch h) de_M_whole_41
  · refine lv_aload_n hx hb de_M_whole_4 rfl (lv_at hl 0 rfl) ?_
    refine qv_callR (As := []) (rest := []) ⟨hx, hb, hml, hown, hts⟩ (mo_weights l dC dI cJ cI cZ h xthrown xlines xrows xweightSum xpriceSum hweight hprice hisTold hcents hbyWeights hrowDays hrowThousandths xday xpaid hup hdown hcondition hhasFigures hfigureA hfigureB xisRelated xisTurned xtest xband) (cwV 0 hts (gd_V wd_825 wd_827 wd_30 wd_47 wd_828) rfl rfl rfl (by decide +kernel) ⟨Nat.le_of_ble_eq_true rfl, Nat.le_of_ble_eq_true rfl⟩) hK hP [0] rfl rfl rfl rfl hl.1 rfl (Nat.le_of_ble_eq_true rfl) de_M_whole_5 ⟨Nat.zero_le _, Nat.zero_le _⟩ ?_
    refine lv_lconst (v := 0) hx hb de_M_whole_8 (by decide) ?_
    refine W.lcmp hx hb de_M_whole_9 ?_
    refine lv_if_le (tgt := 20) hx hb de_M_whole_10 (by decide) (fun c_3 => ?_) (fun c_3 => ?_)
    · have c_3 := (lg_cmp_le _ _).mp c_3
      refine lv_aload_n hx hb de_M_whole_20 rfl (lv_at hl 0 rfl) ?_
      refine qv_callR (As := []) (rest := []) ⟨hx, hb, hml, hown, hts⟩ (mo_prices l dC dI cJ cI cZ h xthrown xlines xrows xweightSum xpriceSum hweight hprice hisTold hcents hbyWeights hrowDays hrowThousandths xday xpaid hup hdown hcondition hhasFigures hfigureA hfigureB xisRelated xisTurned xtest xband) (cwV 0 hts (gd_V wd_806 wd_808 wd_26 wd_47 wd_809) rfl rfl rfl (by decide +kernel) ⟨Nat.le_of_ble_eq_true rfl, Nat.le_of_ble_eq_true rfl⟩) hK hP [0] rfl rfl rfl rfl hl.1 rfl (Nat.le_of_ble_eq_true rfl) de_M_whole_21 ⟨Nat.zero_le _, Nat.zero_le _⟩ ?_
      refine lv_lconst (v := 0) hx hb de_M_whole_24 (by decide) ?_
      refine W.lcmp hx hb de_M_whole_25 ?_
      refine lv_if_le (tgt := 36) hx hb de_M_whole_26 (by decide) (fun c_4 => ?_) (fun c_4 => ?_)
      · have c_4 := (lg_cmp_le _ _).mp c_4
        refine lv_aload_n hx hb de_M_whole_36 rfl (lv_at hl 0 rfl) ?_
        refine va_get (D := (dC, dI)) (ci := 5) (v := .int (nI xlines)) (C := rn_M) (T := tf_M) (N := 24) hx hb hts in_M hown hK hP 0 rfl rfl 1 (by decide) (hts _ wd_644) (fun _ h9 => h9) rfl de_M_whole_37 ?_
        refine lv_i2l (v := (nI xlines).toInt64) hx hb de_M_whole_40 rfl ?_
        exact W.lret (v := (nI xlines).toInt64) hx hb hr (fun t9 ht9 hW9 => ⟨congrArg (fun z => Outcome.returned (some (Value.long z))) (show ((nI xlines).toInt64) = (sm_whole xweightSum xpriceSum xlines bw) from by simp only [sm_whole, if_neg c_1, if_pos c_3, if_pos c_4]), ht9⟩) (fun _ h => nomatch h) de_M_whole_41
      · have c_4 := mt (lg_cmp_le _ _).mpr c_4
        refine lv_aload_n hx hb de_M_whole_29 rfl (lv_at hl 0 rfl) ?_
        refine qv_callR (As := []) (rest := []) ⟨hx, hb, hml, hown, hts⟩ (mo_prices l dC dI cJ cI cZ h xthrown xlines xrows xweightSum xpriceSum hweight hprice hisTold hcents hbyWeights hrowDays hrowThousandths xday xpaid hup hdown hcondition hhasFigures hfigureA hfigureB xisRelated xisTurned xtest xband) (cwV 0 hts (gd_V wd_806 wd_808 wd_26 wd_47 wd_809) rfl rfl rfl (by decide +kernel) ⟨Nat.le_of_ble_eq_true rfl, Nat.le_of_ble_eq_true rfl⟩) hK hP [0] rfl rfl rfl rfl hl.1 rfl (Nat.le_of_ble_eq_true rfl) de_M_whole_30 ⟨Nat.zero_le _, Nat.zero_le _⟩ ?_
        refine lv_goto (tgt := 41) hx hb de_M_whole_33 (by decide) ?_
        exact W.lret (v := xpriceSum) hx hb hr (fun t9 ht9 hW9 => ⟨congrArg (fun z => Outcome.returned (some (Value.long z))) (show xpriceSum = (sm_whole xweightSum xpriceSum xlines bw) from by simp only [sm_whole, if_neg c_1, if_pos c_3, if_neg c_4]), ht9⟩) (fun _ h => nomatch h) de_M_whole_41
    · have c_3 := mt (lg_cmp_le _ _).mpr c_3
      refine lv_aload_n hx hb de_M_whole_13 rfl (lv_at hl 0 rfl) ?_
      refine qv_callR (As := []) (rest := []) ⟨hx, hb, hml, hown, hts⟩ (mo_weights l dC dI cJ cI cZ h xthrown xlines xrows xweightSum xpriceSum hweight hprice hisTold hcents hbyWeights hrowDays hrowThousandths xday xpaid hup hdown hcondition hhasFigures hfigureA hfigureB xisRelated xisTurned xtest xband) (cwV 0 hts (gd_V wd_825 wd_827 wd_30 wd_47 wd_828) rfl rfl rfl (by decide +kernel) ⟨Nat.le_of_ble_eq_true rfl, Nat.le_of_ble_eq_true rfl⟩) hK hP [0] rfl rfl rfl rfl hl.1 rfl (Nat.le_of_ble_eq_true rfl) de_M_whole_14 ⟨Nat.zero_le _, Nat.zero_le _⟩ ?_
      refine lv_goto (tgt := 41) hx hb de_M_whole_17 (by decide) ?_
      exact W.lret (v := xweightSum) hx hb hr (fun t9 ht9 hW9 => ⟨congrArg (fun z => Outcome.returned (some (Value.long z))) (show xweightSum = (sm_whole xweightSum xpriceSum xlines bw) from by simp only [sm_whole, if_neg c_1, if_neg c_3]), ht9⟩) (fun _ h => nomatch h) de_M_whole_41
