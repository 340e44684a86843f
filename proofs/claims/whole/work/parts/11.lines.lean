set_option maxHeartbeats 4000000 in
set_option maxRecDepth 100000 in
/-- weightSum -/
theorem cl_weightSum (l : Launch) (dC : Nat → ClassId) (dI : Nat → Nat → Nat) (cJ cI cZ : Nat) (h : Nat) (hweights : Nat) (hprices : Nat) (hones : Nat) (hparts : Nat) (hrests : Nat) (xsize : Nat) (xweightSum : Int64) (xpriceSum : Int64) : Met l yn_L_weightSum ws_L_weightSum ({ frames := 0, cells := 0, slots := 0, locals := 0 }) (va_Pc [.ref h] (qv_ro (dC, dI) cls_t [(h, .inr (2, [.ref hweights, .ref hprices, .ref hones, .ref hparts, .ref hrests, .int (nI xsize), .long xweightSum, .long xpriceSum]))] [(cJ, .long), (cI, .int), (cZ, .boolean)])) (k2_QcV (.long xweightSum)) 0 0 (fun _ => False) := by
  refine Met.ofW (cc := by_L_weightSum) (maxL := 1) (ret := (some .long)) (by decide) rfl ?_
  intro p e s m args below meth c s₁ B hml hv
  obtain ⟨rfl, hP, hK⟩ := hv
  have hx := B.exec
  have hb := B.bytes
  have hr := B.returns
  have hts := fun (w : Cond) (h : w ∈ lw_gt) => atoms_spec (ws := ws_L_weightSum) B.pre w (List.mem_cons_of_mem _ h)
  have hown : s.vm.findClass rn_L = some m.cls := findClass_of_methodNamed B.named
  have hlocks := B.notSynchronized
  have hP : va_P (dC, dI) cls_t [(h, .inr (2, [.ref hweights, .ref hprices, .ref hones, .ref hparts, .ref hrests, .int (nI xsize), .long xweightSum, .long xpriceSum]))] s.heap := hP
  have hl := lv_entry ([.ref h]) (n := 1) (Nat.le_of_ble_eq_true rfl)
  rw [lg_entry_eq]
  generalize (lg_sl ([.ref h]) ++ List.replicate (1 - (lg_sl ([.ref h])).length) Slot.unset).toArray = ls at hl ⊢
  have hl : lv_has ls 1 [(0, .ref h)] := hl
  refine lv_aload_n hx hb de_L_weightSum_0 rfl (lv_at hl 0 rfl) ?_
  refine va_get (D := (dC, dI)) (ci := 2) (v := .long xweightSum) (C := rn_L) (T := tf_L) (N := 8) hx hb hts in_L hown hK hP 0 rfl rfl 6 (by decide) (hts _ wd_77) (fun _ h9 => h9) rfl de_L_weightSum_1 ?_
  exact W.lret (v := xweightSum) hx hb hr (fun t9 ht9 hW9 => ⟨congrArg (fun z => Outcome.returned (some (Value.long z))) rfl, ht9⟩) (fun _ h => nomatch h) de_L_weightSum_4
set_option maxHeartbeats 4000000 in
set_option maxRecDepth 100000 in
/-- priceSum -/
theorem cl_priceSum (l : Launch) (dC : Nat → ClassId) (dI : Nat → Nat → Nat) (cJ cI cZ : Nat) (h : Nat) (hweights : Nat) (hprices : Nat) (hones : Nat) (hparts : Nat) (hrests : Nat) (xsize : Nat) (xweightSum : Int64) (xpriceSum : Int64) : Met l yn_L_priceSum ws_L_priceSum ({ frames := 0, cells := 0, slots := 0, locals := 0 }) (va_Pc [.ref h] (qv_ro (dC, dI) cls_t [(h, .inr (2, [.ref hweights, .ref hprices, .ref hones, .ref hparts, .ref hrests, .int (nI xsize), .long xweightSum, .long xpriceSum]))] [(cJ, .long), (cI, .int), (cZ, .boolean)])) (k2_QcV (.long xpriceSum)) 0 0 (fun _ => False) := by
  refine Met.ofW (cc := by_L_priceSum) (maxL := 1) (ret := (some .long)) (by decide) rfl ?_
  intro p e s m args below meth c s₁ B hml hv
  obtain ⟨rfl, hP, hK⟩ := hv
  have hx := B.exec
  have hb := B.bytes
  have hr := B.returns
  have hts := fun (w : Cond) (h : w ∈ lw_gt) => atoms_spec (ws := ws_L_priceSum) B.pre w (List.mem_cons_of_mem _ h)
  have hown : s.vm.findClass rn_L = some m.cls := findClass_of_methodNamed B.named
  have hlocks := B.notSynchronized
  have hP : va_P (dC, dI) cls_t [(h, .inr (2, [.ref hweights, .ref hprices, .ref hones, .ref hparts, .ref hrests, .int (nI xsize), .long xweightSum, .long xpriceSum]))] s.heap := hP
  have hl := lv_entry ([.ref h]) (n := 1) (Nat.le_of_ble_eq_true rfl)
  rw [lg_entry_eq]
  generalize (lg_sl ([.ref h]) ++ List.replicate (1 - (lg_sl ([.ref h])).length) Slot.unset).toArray = ls at hl ⊢
  have hl : lv_has ls 1 [(0, .ref h)] := hl
  refine lv_aload_n hx hb de_L_priceSum_0 rfl (lv_at hl 0 rfl) ?_
  refine va_get (D := (dC, dI)) (ci := 2) (v := .long xpriceSum) (C := rn_L) (T := tf_L) (N := 8) hx hb hts in_L hown hK hP 0 rfl rfl 7 (by decide) (hts _ wd_78) (fun _ h9 => h9) rfl de_L_priceSum_1 ?_
  exact W.lret (v := xpriceSum) hx hb hr (fun t9 ht9 hW9 => ⟨congrArg (fun z => Outcome.returned (some (Value.long z))) rfl, ht9⟩) (fun _ h => nomatch h) de_L_priceSum_4
set_option maxHeartbeats 4000000 in
set_option maxRecDepth 100000 in
/-- size -/
theorem cl_size (l : Launch) (dC : Nat → ClassId) (dI : Nat → Nat → Nat) (cJ cI cZ : Nat) (h : Nat) (hweights : Nat) (hprices : Nat) (hones : Nat) (hparts : Nat) (hrests : Nat) (xsize : Nat) (xweightSum : Int64) (xpriceSum : Int64) : Met l yn_L_size ws_L_size ({ frames := 0, cells := 0, slots := 0, locals := 0 }) (va_Pc [.ref h] (qv_ro (dC, dI) cls_t [(h, .inr (2, [.ref hweights, .ref hprices, .ref hones, .ref hparts, .ref hrests, .int (nI xsize), .long xweightSum, .long xpriceSum]))] [(cJ, .long), (cI, .int), (cZ, .boolean)])) (k2_QcV (.int (nI xsize))) 0 0 (fun _ => False) := by
  refine Met.ofW (cc := by_L_size) (maxL := 1) (ret := (some .int)) (by decide) rfl ?_
  intro p e s m args below meth c s₁ B hml hv
  obtain ⟨rfl, hP, hK⟩ := hv
  have hx := B.exec
  have hb := B.bytes
  have hr := B.returns
  have hts := fun (w : Cond) (h : w ∈ lw_gt) => atoms_spec (ws := ws_L_size) B.pre w (List.mem_cons_of_mem _ h)
  have hown : s.vm.findClass rn_L = some m.cls := findClass_of_methodNamed B.named
  have hlocks := B.notSynchronized
  have hP : va_P (dC, dI) cls_t [(h, .inr (2, [.ref hweights, .ref hprices, .ref hones, .ref hparts, .ref hrests, .int (nI xsize), .long xweightSum, .long xpriceSum]))] s.heap := hP
  have hl := lv_entry ([.ref h]) (n := 1) (Nat.le_of_ble_eq_true rfl)
  rw [lg_entry_eq]
  generalize (lg_sl ([.ref h]) ++ List.replicate (1 - (lg_sl ([.ref h])).length) Slot.unset).toArray = ls at hl ⊢
  have hl : lv_has ls 1 [(0, .ref h)] := hl
  refine lv_aload_n hx hb de_L_size_0 rfl (lv_at hl 0 rfl) ?_
  refine va_get (D := (dC, dI)) (ci := 2) (v := .int (nI xsize)) (C := rn_L) (T := tf_L) (N := 8) hx hb hts in_L hown hK hP 0 rfl rfl 5 (by decide) (hts _ wd_76) (fun _ h9 => h9) rfl de_L_size_1 ?_
  exact W.iret (v := nI xsize) hx hb hr (fun t9 ht9 hW9 => ⟨congrArg (fun z => Outcome.returned (some (Value.int z))) rfl, ht9⟩) (fun _ h => nomatch h) de_L_size_4
set_option maxHeartbeats 4000000 in
set_option maxRecDepth 100000 in
/-- isFull -/
theorem cl_isFull (l : Launch) (dC : Nat → ClassId) (dI : Nat → Nat → Nat) (cJ cI cZ : Nat) (h : Nat) (hweights : Nat) (hprices : Nat) (hones : Nat) (hparts : Nat) (hrests : Nat) (xsize : Nat) (xweightSum : Int64) (xpriceSum : Int64) : Met l yn_L_isFull ws_L_isFull ({ frames := 0, cells := 0, slots := 0, locals := 0 }) (va_Pc [.ref h] (qv_ro (dC, dI) cls_t [(h, .inr (2, [.ref hweights, .ref hprices, .ref hones, .ref hparts, .ref hrests, .int (nI xsize), .long xweightSum, .long xpriceSum]))] [(cJ, .long), (cI, .int), (cZ, .boolean)])) (k2_QcV (.int (sp_full (nI xsize) 40))) 0 0 (fun _ => False) := by
  refine Met.ofW (cc := by_L_isFull) (maxL := 1) (ret := (some .boolean)) (by decide) rfl ?_
  intro p e s m args below meth c s₁ B hml hv
  obtain ⟨rfl, hP, hK⟩ := hv
  have hx := B.exec
  have hb := B.bytes
  have hr := B.returns
  have hts := fun (w : Cond) (h : w ∈ lw_gt) => atoms_spec (ws := ws_L_isFull) B.pre w (List.mem_cons_of_mem _ h)
  have hown : s.vm.findClass rn_L = some m.cls := findClass_of_methodNamed B.named
  have hlocks := B.notSynchronized
  have hP : va_P (dC, dI) cls_t [(h, .inr (2, [.ref hweights, .ref hprices, .ref hones, .ref hparts, .ref hrests, .int (nI xsize), .long xweightSum, .long xpriceSum]))] s.heap := hP
  have hl := lv_entry ([.ref h]) (n := 1) (Nat.le_of_ble_eq_true rfl)
  rw [lg_entry_eq]
  generalize (lg_sl ([.ref h]) ++ List.replicate (1 - (lg_sl ([.ref h])).length) Slot.unset).toArray = ls at hl ⊢
  have hl : lv_has ls 1 [(0, .ref h)] := hl
  refine lv_aload_n hx hb de_L_isFull_0 rfl (lv_at hl 0 rfl) ?_
  refine va_get (D := (dC, dI)) (ci := 2) (v := .int (nI xsize)) (C := rn_L) (T := tf_L) (N := 8) hx hb hts in_L hown hK hP 0 rfl rfl 5 (by decide) (hts _ wd_76) (fun _ h9 => h9) rfl de_L_isFull_1 ?_
  refine lv_bipush (v := 40) hx hb de_L_isFull_4 (by decide) ?_
  refine lv_icmp_lt (tgt := 13) hx hb de_L_isFull_6 (by decide) (fun c_1 => ?_) (fun c_1 => ?_)
  · refine lv_iconst (v := 0) hx hb de_L_isFull_13 (by decide) ?_
    exact W.zret (v := 0) hx hb hr rfl (fun t9 ht9 hW9 => ⟨congrArg (fun z => Outcome.returned (some (Value.int z))) (show 0 = (sp_full (nI xsize) 40) from by simp only [sp_full, if_pos c_1]), ht9⟩) (fun _ h => nomatch h) de_L_isFull_14
  · refine lv_iconst (v := 1) hx hb de_L_isFull_9 (by decide) ?_
    refine lv_goto (tgt := 14) hx hb de_L_isFull_10 (by decide) ?_
    exact W.zret (v := 1) hx hb hr rfl (fun t9 ht9 hW9 => ⟨congrArg (fun z => Outcome.returned (some (Value.int z))) (show 1 = (sp_full (nI xsize) 40) from by simp only [sp_full, if_neg c_1]), ht9⟩) (fun _ h => nomatch h) de_L_isFull_14
set_option maxHeartbeats 4000000 in
set_option maxRecDepth 100000 in
/-- has -/
theorem cl_has (l : Launch) (dC : Nat → ClassId) (dI : Nat → Nat → Nat) (cJ cI cZ : Nat) (h : Nat) (hweights : Nat) (hprices : Nat) (hones : Nat) (hparts : Nat) (hrests : Nat) (xsize : Nat) (xweightSum : Int64) (xpriceSum : Int64) (k : Int32) : Met l yn_L_has ws_L_has ({ frames := 0, cells := 0, slots := 0, locals := 0 }) (va_Pc [.ref h, .int k] (qv_ro (dC, dI) cls_t [(h, .inr (2, [.ref hweights, .ref hprices, .ref hones, .ref hparts, .ref hrests, .int (nI xsize), .long xweightSum, .long xpriceSum]))] [(cJ, .long), (cI, .int), (cZ, .boolean)])) (k2_QcV (.int (sp_has k (nI xsize)))) 0 0 (fun _ => False) := by
  refine Met.ofW (cc := by_L_has) (maxL := 2) (ret := (some .boolean)) (by decide) rfl ?_
  intro p e s m args below meth c s₁ B hml hv
  obtain ⟨rfl, hP, hK⟩ := hv
  have hx := B.exec
  have hb := B.bytes
  have hr := B.returns
  have hts := fun (w : Cond) (h : w ∈ lw_gt) => atoms_spec (ws := ws_L_has) B.pre w (List.mem_cons_of_mem _ h)
  have hown : s.vm.findClass rn_L = some m.cls := findClass_of_methodNamed B.named
  have hlocks := B.notSynchronized
  have hP : va_P (dC, dI) cls_t [(h, .inr (2, [.ref hweights, .ref hprices, .ref hones, .ref hparts, .ref hrests, .int (nI xsize), .long xweightSum, .long xpriceSum]))] s.heap := hP
  have hl := lv_entry ([.ref h, .int k]) (n := 2) (Nat.le_of_ble_eq_true rfl)
  rw [lg_entry_eq]
  generalize (lg_sl ([.ref h, .int k]) ++ List.replicate (2 - (lg_sl ([.ref h, .int k])).length) Slot.unset).toArray = ls at hl ⊢
  have hl : lv_has ls 2 [(0, .ref h), (1, .int k)] := hl
  refine lv_iload_n hx hb de_L_has_0 rfl (lv_at hl 1 rfl) ?_
  refine lv_if_lt (tgt := 16) hx hb de_L_has_1 (by decide) (fun c_1 => ?_) (fun c_1 => ?_)
  · refine lv_iconst (v := 0) hx hb de_L_has_16 (by decide) ?_
    exact W.zret (v := 0) hx hb hr rfl (fun t9 ht9 hW9 => ⟨congrArg (fun z => Outcome.returned (some (Value.int z))) (show 0 = (sp_has k (nI xsize)) from by simp only [sp_has, if_pos c_1]), ht9⟩) (fun _ h => nomatch h) de_L_has_17
  · refine lv_iload_n hx hb de_L_has_4 rfl (lv_at hl 1 rfl) ?_
    refine lv_aload_n hx hb de_L_has_5 rfl (lv_at hl 0 rfl) ?_
    refine va_get (D := (dC, dI)) (ci := 2) (v := .int (nI xsize)) (C := rn_L) (T := tf_L) (N := 8) hx hb hts in_L hown hK hP 0 rfl rfl 5 (by decide) (hts _ wd_76) (fun _ h9 => h9) rfl de_L_has_6 ?_
    refine lv_icmp_ge (tgt := 16) hx hb de_L_has_9 (by decide) (fun c_2 => ?_) (fun c_2 => ?_)
    · refine lv_iconst (v := 0) hx hb de_L_has_16 (by decide) ?_
      exact W.zret (v := 0) hx hb hr rfl (fun t9 ht9 hW9 => ⟨congrArg (fun z => Outcome.returned (some (Value.int z))) (show 0 = (sp_has k (nI xsize)) from by simp only [sp_has, if_neg c_1, if_pos c_2]), ht9⟩) (fun _ h => nomatch h) de_L_has_17
    · refine lv_iconst (v := 1) hx hb de_L_has_12 (by decide) ?_
      refine lv_goto (tgt := 17) hx hb de_L_has_13 (by decide) ?_
      exact W.zret (v := 1) hx hb hr rfl (fun t9 ht9 hW9 => ⟨congrArg (fun z => Outcome.returned (some (Value.int z))) (show 1 = (sp_has k (nI xsize)) from by simp only [sp_has, if_neg c_1, if_neg c_2]), ht9⟩) (fun _ h => nomatch h) de_L_has_17
set_option maxHeartbeats 4000000 in
set_option maxRecDepth 100000 in
/-- weightOf -/
theorem cl_weightOf (l : Launch) (dC : Nat → ClassId) (dI : Nat → Nat → Nat) (cJ cI cZ : Nat) (h : Nat) (hweights : Nat) (hprices : Nat) (hones : Nat) (hparts : Nat) (hrests : Nat) (xsize : Nat) (xweightSum : Int64) (xpriceSum : Int64) (fweights : Nat → Int64) (k : Nat) (hk : k < 40) : Met l yn_L_weightOf ws_L_weightOf ({ frames := 0, cells := 0, slots := 0, locals := 0 }) (va_Pc [.ref h, .int (nI k)] (qv_ro (dC, dI) cls_t [(h, .inr (2, [.ref hweights, .ref hprices, .ref hones, .ref hparts, .ref hrests, .int (nI xsize), .long xweightSum, .long xpriceSum])), (hweights, .inl (cJ, 40, .inr (.inl fweights)))] [(cJ, .long), (cI, .int), (cZ, .boolean)])) (k2_QcV (.long (fweights k))) 0 0 (fun _ => False) := by
  refine Met.ofW (cc := by_L_weightOf) (maxL := 2) (ret := (some .long)) (by decide) rfl ?_
  intro p e s m args below meth c s₁ B hml hv
  obtain ⟨rfl, hP, hK⟩ := hv
  have hx := B.exec
  have hb := B.bytes
  have hr := B.returns
  have hts := fun (w : Cond) (h : w ∈ lw_gt) => atoms_spec (ws := ws_L_weightOf) B.pre w (List.mem_cons_of_mem _ h)
  have hown : s.vm.findClass rn_L = some m.cls := findClass_of_methodNamed B.named
  have hlocks := B.notSynchronized
  have hP : va_P (dC, dI) cls_t [(h, .inr (2, [.ref hweights, .ref hprices, .ref hones, .ref hparts, .ref hrests, .int (nI xsize), .long xweightSum, .long xpriceSum])), (hweights, .inl (cJ, 40, .inr (.inl fweights)))] s.heap := hP
  have hl := lv_entry ([.ref h, .int (nI k)]) (n := 2) (Nat.le_of_ble_eq_true rfl)
  rw [lg_entry_eq]
  generalize (lg_sl ([.ref h, .int (nI k)]) ++ List.replicate (2 - (lg_sl ([.ref h, .int (nI k)])).length) Slot.unset).toArray = ls at hl ⊢
  have hl : lv_has ls 2 [(0, .ref h), (1, .int (nI k))] := hl
  refine lv_aload_n hx hb de_L_weightOf_0 rfl (lv_at hl 0 rfl) ?_
  refine va_get (D := (dC, dI)) (ci := 2) (v := .ref hweights) (C := rn_L) (T := tf_L) (N := 8) hx hb hts in_L hown hK hP 0 rfl rfl 0 (by decide) (hts _ wd_71) (fun _ h9 => h9) rfl de_L_weightOf_1 ?_
  refine lv_iload_n hx hb de_L_weightOf_4 rfl (lv_at hl 1 rfl) ?_
  refine qv_lald (k := k) hx hb hK hP 1 0 rfl rfl (by omega) (by omega) de_L_weightOf_5 ?_
  exact W.lret (v := fweights k) hx hb hr (fun t9 ht9 hW9 => ⟨congrArg (fun z => Outcome.returned (some (Value.long z))) rfl, ht9⟩) (fun _ h => nomatch h) de_L_weightOf_6
set_option maxHeartbeats 4000000 in
set_option maxRecDepth 100000 in
/-- priceOf -/
theorem cl_priceOf (l : Launch) (dC : Nat → ClassId) (dI : Nat → Nat → Nat) (cJ cI cZ : Nat) (h : Nat) (hweights : Nat) (hprices : Nat) (hones : Nat) (hparts : Nat) (hrests : Nat) (xsize : Nat) (xweightSum : Int64) (xpriceSum : Int64) (fprices : Nat → Int64) (k : Nat) (hk : k < 40) : Met l yn_L_priceOf ws_L_priceOf ({ frames := 0, cells := 0, slots := 0, locals := 0 }) (va_Pc [.ref h, .int (nI k)] (qv_ro (dC, dI) cls_t [(h, .inr (2, [.ref hweights, .ref hprices, .ref hones, .ref hparts, .ref hrests, .int (nI xsize), .long xweightSum, .long xpriceSum])), (hprices, .inl (cJ, 40, .inr (.inl fprices)))] [(cJ, .long), (cI, .int), (cZ, .boolean)])) (k2_QcV (.long (fprices k))) 0 0 (fun _ => False) := by
  refine Met.ofW (cc := by_L_priceOf) (maxL := 2) (ret := (some .long)) (by decide) rfl ?_
  intro p e s m args below meth c s₁ B hml hv
  obtain ⟨rfl, hP, hK⟩ := hv
  have hx := B.exec
  have hb := B.bytes
  have hr := B.returns
  have hts := fun (w : Cond) (h : w ∈ lw_gt) => atoms_spec (ws := ws_L_priceOf) B.pre w (List.mem_cons_of_mem _ h)
  have hown : s.vm.findClass rn_L = some m.cls := findClass_of_methodNamed B.named
  have hlocks := B.notSynchronized
  have hP : va_P (dC, dI) cls_t [(h, .inr (2, [.ref hweights, .ref hprices, .ref hones, .ref hparts, .ref hrests, .int (nI xsize), .long xweightSum, .long xpriceSum])), (hprices, .inl (cJ, 40, .inr (.inl fprices)))] s.heap := hP
  have hl := lv_entry ([.ref h, .int (nI k)]) (n := 2) (Nat.le_of_ble_eq_true rfl)
  rw [lg_entry_eq]
  generalize (lg_sl ([.ref h, .int (nI k)]) ++ List.replicate (2 - (lg_sl ([.ref h, .int (nI k)])).length) Slot.unset).toArray = ls at hl ⊢
  have hl : lv_has ls 2 [(0, .ref h), (1, .int (nI k))] := hl
  refine lv_aload_n hx hb de_L_priceOf_0 rfl (lv_at hl 0 rfl) ?_
  refine va_get (D := (dC, dI)) (ci := 2) (v := .ref hprices) (C := rn_L) (T := tf_L) (N := 8) hx hb hts in_L hown hK hP 0 rfl rfl 1 (by decide) (hts _ wd_72) (fun _ h9 => h9) rfl de_L_priceOf_1 ?_
  refine lv_iload_n hx hb de_L_priceOf_4 rfl (lv_at hl 1 rfl) ?_
  refine qv_lald (k := k) hx hb hK hP 1 0 rfl rfl (by omega) (by omega) de_L_priceOf_5 ?_
  exact W.lret (v := fprices k) hx hb hr (fun t9 ht9 hW9 => ⟨congrArg (fun z => Outcome.returned (some (Value.long z))) rfl, ht9⟩) (fun _ h => nomatch h) de_L_priceOf_6
set_option maxHeartbeats 4000000 in
set_option maxRecDepth 100000 in
/-- partOf -/
theorem cl_partOf (l : Launch) (dC : Nat → ClassId) (dI : Nat → Nat → Nat) (cJ cI cZ : Nat) (h : Nat) (hweights : Nat) (hprices : Nat) (hones : Nat) (hparts : Nat) (hrests : Nat) (xsize : Nat) (xweightSum : Int64) (xpriceSum : Int64) (fparts : Nat → Int64) (k : Nat) (hk : k < 40) : Met l yn_L_partOf ws_L_partOf ({ frames := 0, cells := 0, slots := 0, locals := 0 }) (va_Pc [.ref h, .int (nI k)] (qv_ro (dC, dI) cls_t [(h, .inr (2, [.ref hweights, .ref hprices, .ref hones, .ref hparts, .ref hrests, .int (nI xsize), .long xweightSum, .long xpriceSum])), (hparts, .inl (cJ, 40, .inr (.inl fparts)))] [(cJ, .long), (cI, .int), (cZ, .boolean)])) (k2_QcV (.long (fparts k))) 0 0 (fun _ => False) := by
  refine Met.ofW (cc := by_L_partOf) (maxL := 2) (ret := (some .long)) (by decide) rfl ?_
  intro p e s m args below meth c s₁ B hml hv
  obtain ⟨rfl, hP, hK⟩ := hv
  have hx := B.exec
  have hb := B.bytes
  have hr := B.returns
  have hts := fun (w : Cond) (h : w ∈ lw_gt) => atoms_spec (ws := ws_L_partOf) B.pre w (List.mem_cons_of_mem _ h)
  have hown : s.vm.findClass rn_L = some m.cls := findClass_of_methodNamed B.named
  have hlocks := B.notSynchronized
  have hP : va_P (dC, dI) cls_t [(h, .inr (2, [.ref hweights, .ref hprices, .ref hones, .ref hparts, .ref hrests, .int (nI xsize), .long xweightSum, .long xpriceSum])), (hparts, .inl (cJ, 40, .inr (.inl fparts)))] s.heap := hP
  have hl := lv_entry ([.ref h, .int (nI k)]) (n := 2) (Nat.le_of_ble_eq_true rfl)
  rw [lg_entry_eq]
  generalize (lg_sl ([.ref h, .int (nI k)]) ++ List.replicate (2 - (lg_sl ([.ref h, .int (nI k)])).length) Slot.unset).toArray = ls at hl ⊢
  have hl : lv_has ls 2 [(0, .ref h), (1, .int (nI k))] := hl
  refine lv_aload_n hx hb de_L_partOf_0 rfl (lv_at hl 0 rfl) ?_
  refine va_get (D := (dC, dI)) (ci := 2) (v := .ref hparts) (C := rn_L) (T := tf_L) (N := 8) hx hb hts in_L hown hK hP 0 rfl rfl 3 (by decide) (hts _ wd_74) (fun _ h9 => h9) rfl de_L_partOf_1 ?_
  refine lv_iload_n hx hb de_L_partOf_4 rfl (lv_at hl 1 rfl) ?_
  refine qv_lald (k := k) hx hb hK hP 1 0 rfl rfl (by omega) (by omega) de_L_partOf_5 ?_
  exact W.lret (v := fparts k) hx hb hr (fun t9 ht9 hW9 => ⟨congrArg (fun z => Outcome.returned (some (Value.long z))) rfl, ht9⟩) (fun _ h => nomatch h) de_L_partOf_6
