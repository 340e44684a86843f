set_option maxHeartbeats 4000000 in
set_option maxRecDepth 100000 in
/-- period -/
theorem cv_period (l : Launch) (dC : Nat → ClassId) (dI : Nat → Nat → Nat) (cJ cI cZ : Nat) (h : Nat) (hlines : Nat) (hadditions : Nat) (hdeductions : Nat) (hdiscounts : Nat) (hrates : Nat) (hconditions : Nat) (hfigured : Nat) (hfiguresA : Nat) (hfiguresB : Nat) (hvalues : Nat) (xinvoiceDay : Nat) (xpaidDay : Nat) (xareRelated : Int32) (xtestValue : Int64) (xtestBand : Int32) (xisTurned : Int32) (hi : xinvoiceDay < 360) : Met l yn_V_period ws_V_period ({ frames := 0, cells := 0, slots := 0, locals := 0 }) (va_Pc [.ref h] (qv_ro (dC, dI) cls_t [(h, .inr (4, [.ref hlines, .ref hadditions, .ref hdeductions, .ref hdiscounts, .ref hrates, .ref hconditions, .ref hfigured, .ref hfiguresA, .ref hfiguresB, .ref hvalues, .int (nI xinvoiceDay), .int (nI xpaidDay), .int xareRelated, .long xtestValue, .int xtestBand, .int xisTurned]))] [(cJ, .long), (cI, .int), (cZ, .boolean)])) (k2_QcV (.int (nI (xinvoiceDay / 30)))) 0 0 (fun _ => False) := by
  refine Met.ofW (cc := by_V_period) (maxL := 1) (ret := (some .int)) (by decide) rfl ?_
  intro p e s m args below meth c s₁ B hml hv
  obtain ⟨rfl, hP, hK⟩ := hv
  have hx := B.exec
  have hb := B.bytes
  have hr := B.returns
  have hts := fun (w : Cond) (h : w ∈ lw_gt) => atoms_spec (ws := ws_V_period) B.pre w (List.mem_cons_of_mem _ h)
  have hown : s.vm.findClass rn_V = some m.cls := findClass_of_methodNamed B.named
  have hlocks := B.notSynchronized
  have hP : va_P (dC, dI) cls_t [(h, .inr (4, [.ref hlines, .ref hadditions, .ref hdeductions, .ref hdiscounts, .ref hrates, .ref hconditions, .ref hfigured, .ref hfiguresA, .ref hfiguresB, .ref hvalues, .int (nI xinvoiceDay), .int (nI xpaidDay), .int xareRelated, .long xtestValue, .int xtestBand, .int xisTurned]))] s.heap := hP
  have hl := lv_entry ([.ref h]) (n := 1) (Nat.le_of_ble_eq_true rfl)
  rw [lg_entry_eq]
  generalize (lg_sl ([.ref h]) ++ List.replicate (1 - (lg_sl ([.ref h])).length) Slot.unset).toArray = ls at hl ⊢
  have hl : lv_has ls 1 [(0, .ref h)] := hl
  refine lv_aload_n hx hb de_V_period_0 rfl (lv_at hl 0 rfl) ?_
  refine va_get (D := (dC, dI)) (ci := 4) (v := .int (nI xinvoiceDay)) (C := rn_V) (T := tf_V) (N := 16) hx hb hts in_V hown hK hP 0 rfl rfl 10 (by decide) (hts _ wd_161) (fun _ h9 => h9) rfl de_V_period_1 ?_
  refine lv_bipush (v := 30) hx hb de_V_period_4 (by decide) ?_
  refine lv_idiv hx hb de_V_period_6 (by decide) ?_
  rw [show nI xinvoiceDay / 30 = nI (xinvoiceDay / 30) from pk_div (d := 30) (by omega) (by decide) (by decide)]
  exact W.iret (v := nI (xinvoiceDay / 30)) hx hb hr (fun t9 ht9 hW9 => ⟨congrArg (fun z => Outcome.returned (some (Value.int z))) rfl, ht9⟩) (fun _ h => nomatch h) de_V_period_7
set_option maxHeartbeats 4000000 in
set_option maxRecDepth 100000 in
/-- discountCents -/
theorem cv_disc (l : Launch) (dC : Nat → ClassId) (dI : Nat → Nat → Nat) (cJ cI cZ : Nat) (h : Nat) (hlines : Nat) (hadditions : Nat) (hdeductions : Nat) (hdiscounts : Nat) (hrates : Nat) (hconditions : Nat) (hfigured : Nat) (hfiguresA : Nat) (hfiguresB : Nat) (hvalues : Nat) (xinvoiceDay : Nat) (xpaidDay : Nat) (xareRelated : Int32) (xtestValue : Int64) (xtestBand : Int32) (xisTurned : Int32) (hlines_weights : Nat) (hlines_prices : Nat) (hlines_ones : Nat) (hlines_parts : Nat) (hlines_rests : Nat) (xlines_size : Nat) (xlines_weightSum : Int64) (xlines_priceSum : Int64) (hdiscounts_rowDays : Nat) (hdiscounts_rowThousandths : Nat) (xdiscounts_size : Nat) (fdiscounts_rowDays : Nat → Int32) (fdiscounts_rowThousandths : Nat → Int32) (hd : xdiscounts_size ≤ 10) : Met l yn_V_discountCents ws_V_discountCents ({ frames := 1, cells := 0, slots := 0, locals := 25 }) (va_Pc [.ref h] (qv_ro (dC, dI) cls_t [(h, .inr (4, [.ref hlines, .ref hadditions, .ref hdeductions, .ref hdiscounts, .ref hrates, .ref hconditions, .ref hfigured, .ref hfiguresA, .ref hfiguresB, .ref hvalues, .int (nI xinvoiceDay), .int (nI xpaidDay), .int xareRelated, .long xtestValue, .int xtestBand, .int xisTurned])), (hlines, .inr (2, [.ref hlines_weights, .ref hlines_prices, .ref hlines_ones, .ref hlines_parts, .ref hlines_rests, .int (nI xlines_size), .long xlines_weightSum, .long xlines_priceSum])), (hdiscounts, .inr (1, [.ref hdiscounts_rowDays, .ref hdiscounts_rowThousandths, .int (nI xdiscounts_size)])), (hdiscounts_rowDays, .inl (cI, 10, .inl fdiscounts_rowDays)), (hdiscounts_rowThousandths, .inl (cI, 10, .inl fdiscounts_rowThousandths))] [(cJ, .long), (cI, .int), (cZ, .boolean)])) (k2_QcV (.long (sp_near (xlines_priceSum * (sp_thou fdiscounts_rowDays fdiscounts_rowThousandths (nI xinvoiceDay) (nI xpaidDay) xdiscounts_size).toInt64) 1000))) 0 0 (fun _ => False) := by
  refine Met.ofW (cc := by_V_discountCents) (maxL := 1) (ret := (some .long)) (by decide) rfl ?_
  intro p e s m args below meth c s₁ B hml hv
  obtain ⟨rfl, hP, hK⟩ := hv
  have hx := B.exec
  have hb := B.bytes
  have hr := B.returns
  have hts := fun (w : Cond) (h : w ∈ lw_gt) => atoms_spec (ws := ws_V_discountCents) B.pre w (List.mem_cons_of_mem _ h)
  have hown : s.vm.findClass rn_V = some m.cls := findClass_of_methodNamed B.named
  have hlocks := B.notSynchronized
  have hP : va_P (dC, dI) cls_t [(h, .inr (4, [.ref hlines, .ref hadditions, .ref hdeductions, .ref hdiscounts, .ref hrates, .ref hconditions, .ref hfigured, .ref hfiguresA, .ref hfiguresB, .ref hvalues, .int (nI xinvoiceDay), .int (nI xpaidDay), .int xareRelated, .long xtestValue, .int xtestBand, .int xisTurned])), (hlines, .inr (2, [.ref hlines_weights, .ref hlines_prices, .ref hlines_ones, .ref hlines_parts, .ref hlines_rests, .int (nI xlines_size), .long xlines_weightSum, .long xlines_priceSum])), (hdiscounts, .inr (1, [.ref hdiscounts_rowDays, .ref hdiscounts_rowThousandths, .int (nI xdiscounts_size)])), (hdiscounts_rowDays, .inl (cI, 10, .inl fdiscounts_rowDays)), (hdiscounts_rowThousandths, .inl (cI, 10, .inl fdiscounts_rowThousandths))] s.heap := hP
  have hl := lv_entry ([.ref h]) (n := 1) (Nat.le_of_ble_eq_true rfl)
  rw [lg_entry_eq]
  generalize (lg_sl ([.ref h]) ++ List.replicate (1 - (lg_sl ([.ref h])).length) Slot.unset).toArray = ls at hl ⊢
  have hl : lv_has ls 1 [(0, .ref h)] := hl
  refine lv_aload_n hx hb de_V_discountCents_0 rfl (lv_at hl 0 rfl) ?_
  refine va_get (D := (dC, dI)) (ci := 4) (v := .ref hlines) (C := rn_V) (T := tf_V) (N := 16) hx hb hts in_V hown hK hP 0 rfl rfl 0 (by decide) (hts _ wd_151) (fun _ h9 => h9) rfl de_V_discountCents_1 ?_
  refine qv_callR (As := []) (rest := []) ⟨hx, hb, hml, hown, hts⟩ (cl_priceSum l dC dI cJ cI cZ hlines hlines_weights hlines_prices hlines_ones hlines_parts hlines_rests xlines_size xlines_weightSum xlines_priceSum) (cwV 0 hts (gd_V wd_264 wd_265 wd_266 wd_43 wd_267) rfl rfl rfl (by decide +kernel) ⟨Nat.le_of_ble_eq_true rfl, Nat.le_of_ble_eq_true rfl⟩) hK hP [1] rfl rfl rfl rfl hl.1 rfl (Nat.le_of_ble_eq_true rfl) de_V_discountCents_4 ⟨Nat.zero_le _, Nat.zero_le _⟩ ?_
  refine lv_aload_n hx hb de_V_discountCents_7 rfl (lv_at hl 0 rfl) ?_
  refine va_get (D := (dC, dI)) (ci := 4) (v := .ref hdiscounts) (C := rn_V) (T := tf_V) (N := 16) hx hb hts in_V hown hK hP 0 rfl rfl 3 (by decide) (hts _ wd_154) (fun _ h9 => h9) rfl de_V_discountCents_8 ?_
  refine lv_aload_n hx hb de_V_discountCents_11 rfl (lv_at hl 0 rfl) ?_
  refine va_get (D := (dC, dI)) (ci := 4) (v := .int (nI xinvoiceDay)) (C := rn_V) (T := tf_V) (N := 16) hx hb hts in_V hown hK hP 0 rfl rfl 10 (by decide) (hts _ wd_161) (fun _ h9 => h9) rfl de_V_discountCents_12 ?_
  refine lv_aload_n hx hb de_V_discountCents_15 rfl (lv_at hl 0 rfl) ?_
  refine va_get (D := (dC, dI)) (ci := 4) (v := .int (nI xpaidDay)) (C := rn_V) (T := tf_V) (N := 16) hx hb hts in_V hown hK hP 0 rfl rfl 11 (by decide) (hts _ wd_162) (fun _ h9 => h9) rfl de_V_discountCents_16 ?_
  refine qv_callR (As := [.int (nI xinvoiceDay), .int (nI xpaidDay)]) (rest := [.long xlines_priceSum]) ⟨hx, hb, hml, hown, hts⟩ (cd_thou l dC dI cJ cI cZ hdiscounts hdiscounts_rowDays hdiscounts_rowThousandths xdiscounts_size fdiscounts_rowDays fdiscounts_rowThousandths (nI xinvoiceDay) (nI xpaidDay) (by omega)) (cwV 2 hts (gd_V wd_268 wd_269 wd_270 wd_45 wd_271) rfl rfl rfl (by decide +kernel) ⟨Nat.le_of_ble_eq_true rfl, Nat.le_of_ble_eq_true rfl⟩) hK hP [2, 3, 4] rfl rfl rfl rfl hl.1 rfl (Nat.le_of_ble_eq_true rfl) de_V_discountCents_19 ⟨Nat.zero_le _, Nat.zero_le _⟩ ?_
  refine lv_i2l (v := (sp_thou fdiscounts_rowDays fdiscounts_rowThousandths (nI xinvoiceDay) (nI xpaidDay) xdiscounts_size).toInt64) hx hb de_V_discountCents_22 rfl ?_
  refine lv_lmul hx hb de_V_discountCents_23 ?_
  refine lv_ldc2 (v := 1000) hx hb hown (hts _ wd_231) de_V_discountCents_24 ?_
  refine qv_callS (As := [.long (xlines_priceSum * ((sp_thou fdiscounts_rowDays fdiscounts_rowThousandths (nI xinvoiceDay) (nI xpaidDay) xdiscounts_size).toInt64)), .long 1000]) (rest := []) ⟨hx, hb, hml, hown, hts⟩ (cs_near l dC dI cJ cI cZ (xlines_priceSum * ((sp_thou fdiscounts_rowDays fdiscounts_rowThousandths (nI xinvoiceDay) (nI xpaidDay) xdiscounts_size).toInt64)) 1000) (cwS 2 hts (gd_S wd_272 wd_273 wd_42 wd_274) rfl rfl rfl (by decide +kernel) ⟨Nat.le_of_ble_eq_true rfl, Nat.le_of_ble_eq_true rfl⟩) rfl hl.1 rfl (Nat.le_of_ble_eq_true rfl) de_V_discountCents_27 ⟨Nat.zero_le _, Nat.zero_le _⟩ ?_
  exact W.lret (v := sp_near (xlines_priceSum * ((sp_thou fdiscounts_rowDays fdiscounts_rowThousandths (nI xinvoiceDay) (nI xpaidDay) xdiscounts_size).toInt64)) 1000) hx hb hr (fun t9 ht9 hW9 => ⟨congrArg (fun z => Outcome.returned (some (Value.long z))) rfl, ht9⟩) (fun _ h => nomatch h) de_V_discountCents_30
set_option maxHeartbeats 4000000 in
set_option maxRecDepth 100000 in
/-- valueSum -/
theorem cv_vsum (l : Launch) (dC : Nat → ClassId) (dI : Nat → Nat → Nat) (cJ cI cZ : Nat) (h : Nat) (hlines : Nat) (hadditions : Nat) (hdeductions : Nat) (hdiscounts : Nat) (hrates : Nat) (hconditions : Nat) (hfigured : Nat) (hfiguresA : Nat) (hfiguresB : Nat) (hvalues : Nat) (xinvoiceDay : Nat) (xpaidDay : Nat) (xareRelated : Int32) (xtestValue : Int64) (xtestBand : Int32) (xisTurned : Int32) (hlines_weights : Nat) (hlines_prices : Nat) (hlines_ones : Nat) (hlines_parts : Nat) (hlines_rests : Nat) (xlines_size : Nat) (xlines_weightSum : Int64) (xlines_priceSum : Int64) (fvalues : Nat → Int64) (hn : xlines_size ≤ 40) : Met l yn_V_valueSum ws_V_valueSum ({ frames := 1, cells := 0, slots := 0, locals := 20 }) (va_Pc [.ref h] (qv_ro (dC, dI) cls_t [(h, .inr (4, [.ref hlines, .ref hadditions, .ref hdeductions, .ref hdiscounts, .ref hrates, .ref hconditions, .ref hfigured, .ref hfiguresA, .ref hfiguresB, .ref hvalues, .int (nI xinvoiceDay), .int (nI xpaidDay), .int xareRelated, .long xtestValue, .int xtestBand, .int xisTurned])), (hlines, .inr (2, [.ref hlines_weights, .ref hlines_prices, .ref hlines_ones, .ref hlines_parts, .ref hlines_rests, .int (nI xlines_size), .long xlines_weightSum, .long xlines_priceSum])), (hvalues, .inl (cJ, 40, .inr (.inl fvalues)))] [(cJ, .long), (cI, .int), (cZ, .boolean)])) (k2_QcV (.long (sp_sum fvalues xlines_size))) 0 0 (fun _ => False) := by
  refine Met.ofW (cc := by_V_valueSum) (maxL := 4) (ret := (some .long)) (by decide) rfl ?_
  intro p e s m args below meth c s₁ B hml hv
  obtain ⟨rfl, hP, hK⟩ := hv
  have hx := B.exec
  have hb := B.bytes
  have hr := B.returns
  have hts := fun (w : Cond) (h : w ∈ lw_gt) => atoms_spec (ws := ws_V_valueSum) B.pre w (List.mem_cons_of_mem _ h)
  have hown : s.vm.findClass rn_V = some m.cls := findClass_of_methodNamed B.named
  have hlocks := B.notSynchronized
  have hP : va_P (dC, dI) cls_t [(h, .inr (4, [.ref hlines, .ref hadditions, .ref hdeductions, .ref hdiscounts, .ref hrates, .ref hconditions, .ref hfigured, .ref hfiguresA, .ref hfiguresB, .ref hvalues, .int (nI xinvoiceDay), .int (nI xpaidDay), .int xareRelated, .long xtestValue, .int xtestBand, .int xisTurned])), (hlines, .inr (2, [.ref hlines_weights, .ref hlines_prices, .ref hlines_ones, .ref hlines_parts, .ref hlines_rests, .int (nI xlines_size), .long xlines_weightSum, .long xlines_priceSum])), (hvalues, .inl (cJ, 40, .inr (.inl fvalues)))] s.heap := hP
  have hl := lv_entry ([.ref h]) (n := 4) (Nat.le_of_ble_eq_true rfl)
  rw [lg_entry_eq]
  generalize (lg_sl ([.ref h]) ++ List.replicate (4 - (lg_sl ([.ref h])).length) Slot.unset).toArray = ls at hl ⊢
  have hl : lv_has ls 4 [(0, .ref h)] := hl
  refine lv_lconst (v := 0) hx hb de_V_valueSum_0 (by decide) ?_
  refine lv_lstore_n (lv' := [(1, .long 0), (0, .ref h)]) hx hb de_V_valueSum_1 rfl hl (by decide) rfl (fun ls hl => ?_)
  refine lv_iconst (v := 0) hx hb de_V_valueSum_2 (by decide) ?_
  refine lv_istore_n (lv' := [(3, .int 0), (1, .long 0), (0, .ref h)]) hx hb de_V_valueSum_3 rfl hl (by decide) rfl (fun ls hl => ?_)
  refine qv_loop (N := xlines_size) (i0 := 0) (fun i H locs ls => H = s.heap ∧ locs = [] ∧ lv_has ls 4 [(3, .int (nI i)), (1, .long (sp_sum fvalues i)), (0, .ref h)]) (Nat.zero_le _) ⟨rfl, rfl, lv_sub hl [0, 1, 2] rfl⟩ (fun i H locs ls hi_4 hI hk_4 => ?_) (fun H locs ls hI => ?_)
  · obtain ⟨rfl, rfl, hl⟩ := hI
    refine lv_iload_n hx hb de_V_valueSum_4 rfl (lv_at hl 0 rfl) ?_
    refine lv_aload_n hx hb de_V_valueSum_5 rfl (lv_at hl 2 rfl) ?_
    refine va_get (D := (dC, dI)) (ci := 4) (v := .ref hlines) (C := rn_V) (T := tf_V) (N := 16) hx hb hts in_V hown hK hP 0 rfl rfl 0 (by decide) (hts _ wd_151) (fun _ h9 => h9) rfl de_V_valueSum_6 ?_
    refine qv_callR (As := []) (rest := [.int (nI i)]) ⟨hx, hb, hml, hown, hts⟩ (cl_size l dC dI cJ cI cZ hlines hlines_weights hlines_prices hlines_ones hlines_parts hlines_rests xlines_size xlines_weightSum xlines_priceSum) (cwV 0 hts (gd_V wd_248 wd_249 wd_250 wd_43 wd_251) rfl rfl rfl (by decide +kernel) ⟨Nat.le_of_ble_eq_true rfl, Nat.le_of_ble_eq_true rfl⟩) hK hP [1] rfl rfl rfl rfl hl.1 rfl (Nat.le_of_ble_eq_true rfl) de_V_valueSum_9 ⟨Nat.zero_le _, Nat.zero_le _⟩ ?_
    refine lv_icmp_ge (tgt := 30) hx hb de_V_valueSum_12 (by decide) (fun c_1 => ((nI_ge hi_4 (by omega) c_1)).elim) (fun _ => ?_)
    refine lv_lload_n hx hb de_V_valueSum_15 rfl (lv_at hl 1 rfl) ?_
    refine lv_aload_n hx hb de_V_valueSum_16 rfl (lv_at hl 2 rfl) ?_
    refine va_get (D := (dC, dI)) (ci := 4) (v := .ref hvalues) (C := rn_V) (T := tf_V) (N := 16) hx hb hts in_V hown hK hP 0 rfl rfl 9 (by decide) (hts _ wd_160) (fun _ h9 => h9) rfl de_V_valueSum_17 ?_
    refine lv_iload_n hx hb de_V_valueSum_20 rfl (lv_at hl 0 rfl) ?_
    refine qv_lald (k := i) hx hb hK hP 2 0 rfl rfl (by omega) (by omega) de_V_valueSum_21 ?_
    refine lv_ladd hx hb de_V_valueSum_22 ?_
    refine lv_lstore_n (lv' := [(1, .long ((sp_sum fvalues i) + (fvalues i))), (3, .int (nI i)), (0, .ref h)]) hx hb de_V_valueSum_23 rfl hl (by decide) rfl (fun ls hl => ?_)
    refine lv_iinc (v := nI (i + 1)) (lv' := [(3, .int (nI (i + 1))), (1, .long ((sp_sum fvalues i) + (fvalues i))), (0, .ref h)]) hx hb de_V_valueSum_24 hl (k := 1) rfl (nI_1 _) (by decide) rfl (fun ls hl => ?_)
    refine lv_goto (tgt := 4) hx hb de_V_valueSum_27 (by decide) ?_
    exact hk_4 _ _ _ ⟨rfl, rfl, lv_sub hl [0, 1, 2] rfl⟩
  · obtain ⟨rfl, rfl, hl⟩ := hI
    refine lv_iload_n hx hb de_V_valueSum_4 rfl (lv_at hl 0 rfl) ?_
    refine lv_aload_n hx hb de_V_valueSum_5 rfl (lv_at hl 2 rfl) ?_
    refine va_get (D := (dC, dI)) (ci := 4) (v := .ref hlines) (C := rn_V) (T := tf_V) (N := 16) hx hb hts in_V hown hK hP 0 rfl rfl 0 (by decide) (hts _ wd_151) (fun _ h9 => h9) rfl de_V_valueSum_6 ?_
    refine qv_callR (As := []) (rest := [.int (nI xlines_size)]) ⟨hx, hb, hml, hown, hts⟩ (cl_size l dC dI cJ cI cZ hlines hlines_weights hlines_prices hlines_ones hlines_parts hlines_rests xlines_size xlines_weightSum xlines_priceSum) (cwV 0 hts (gd_V wd_248 wd_249 wd_250 wd_43 wd_251) rfl rfl rfl (by decide +kernel) ⟨Nat.le_of_ble_eq_true rfl, Nat.le_of_ble_eq_true rfl⟩) hK hP [1] rfl rfl rfl rfl hl.1 rfl (Nat.le_of_ble_eq_true rfl) de_V_valueSum_9 ⟨Nat.zero_le _, Nat.zero_le _⟩ ?_
    refine lv_icmp_ge (tgt := 30) hx hb de_V_valueSum_12 (by decide) (fun _ => ?_) (fun c_2 => ((c_2 (nI_le (Nat.le_refl _) (by omega)))).elim)
    refine lv_lload_n hx hb de_V_valueSum_30 rfl (lv_at hl 1 rfl) ?_
    exact W.lret (v := sp_sum fvalues xlines_size) hx hb hr (fun t9 ht9 hW9 => ⟨congrArg (fun z => Outcome.returned (some (Value.long z))) rfl, ht9⟩) (fun _ h => nomatch h) de_V_valueSum_31
set_option maxHeartbeats 4000000 in
set_option maxRecDepth 100000 in
/-- noValueBelowZero -/
theorem cv_nneg (l : Launch) (dC : Nat → ClassId) (dI : Nat → Nat → Nat) (cJ cI cZ : Nat) (h : Nat) (hlines : Nat) (hadditions : Nat) (hdeductions : Nat) (hdiscounts : Nat) (hrates : Nat) (hconditions : Nat) (hfigured : Nat) (hfiguresA : Nat) (hfiguresB : Nat) (hvalues : Nat) (xinvoiceDay : Nat) (xpaidDay : Nat) (xareRelated : Int32) (xtestValue : Int64) (xtestBand : Int32) (xisTurned : Int32) (hlines_weights : Nat) (hlines_prices : Nat) (hlines_ones : Nat) (hlines_parts : Nat) (hlines_rests : Nat) (xlines_size : Nat) (xlines_weightSum : Int64) (xlines_priceSum : Int64) (fvalues : Nat → Int64) (hn : xlines_size ≤ 40) : Met l yn_V_noValueBelowZero ws_V_noValueBelowZero ({ frames := 1, cells := 0, slots := 0, locals := 20 }) (va_Pc [.ref h] (qv_ro (dC, dI) cls_t [(h, .inr (4, [.ref hlines, .ref hadditions, .ref hdeductions, .ref hdiscounts, .ref hrates, .ref hconditions, .ref hfigured, .ref hfiguresA, .ref hfiguresB, .ref hvalues, .int (nI xinvoiceDay), .int (nI xpaidDay), .int xareRelated, .long xtestValue, .int xtestBand, .int xisTurned])), (hlines, .inr (2, [.ref hlines_weights, .ref hlines_prices, .ref hlines_ones, .ref hlines_parts, .ref hlines_rests, .int (nI xlines_size), .long xlines_weightSum, .long xlines_priceSum])), (hvalues, .inl (cJ, 40, .inr (.inl fvalues)))] [(cJ, .long), (cI, .int), (cZ, .boolean)])) (k2_QcV (.int (sp_nneg fvalues xlines_size))) 0 0 (fun _ => False) := by
  refine Met.ofW (cc := by_V_noValueBelowZero) (maxL := 2) (ret := (some .boolean)) (by decide) rfl ?_
  intro p e s m args below meth c s₁ B hml hv
  obtain ⟨rfl, hP, hK⟩ := hv
  have hx := B.exec
  have hb := B.bytes
  have hr := B.returns
  have hts := fun (w : Cond) (h : w ∈ lw_gt) => atoms_spec (ws := ws_V_noValueBelowZero) B.pre w (List.mem_cons_of_mem _ h)
  have hown : s.vm.findClass rn_V = some m.cls := findClass_of_methodNamed B.named
  have hlocks := B.notSynchronized
  have hP : va_P (dC, dI) cls_t [(h, .inr (4, [.ref hlines, .ref hadditions, .ref hdeductions, .ref hdiscounts, .ref hrates, .ref hconditions, .ref hfigured, .ref hfiguresA, .ref hfiguresB, .ref hvalues, .int (nI xinvoiceDay), .int (nI xpaidDay), .int xareRelated, .long xtestValue, .int xtestBand, .int xisTurned])), (hlines, .inr (2, [.ref hlines_weights, .ref hlines_prices, .ref hlines_ones, .ref hlines_parts, .ref hlines_rests, .int (nI xlines_size), .long xlines_weightSum, .long xlines_priceSum])), (hvalues, .inl (cJ, 40, .inr (.inl fvalues)))] s.heap := hP
  have hl := lv_entry ([.ref h]) (n := 2) (Nat.le_of_ble_eq_true rfl)
  rw [lg_entry_eq]
  generalize (lg_sl ([.ref h]) ++ List.replicate (2 - (lg_sl ([.ref h])).length) Slot.unset).toArray = ls at hl ⊢
  have hl : lv_has ls 2 [(0, .ref h)] := hl
  refine lv_iconst (v := 0) hx hb de_V_noValueBelowZero_0 (by decide) ?_
  refine lv_istore_n (lv' := [(1, .int 0), (0, .ref h)]) hx hb de_V_noValueBelowZero_1 rfl hl (by decide) rfl (fun ls hl => ?_)
  refine qv_loop (N := xlines_size) (i0 := 0) (fun i H locs ls => (∀ j, j < i → ¬ fvalues j < 0) ∧ H = s.heap ∧ locs = [] ∧ lv_has ls 2 [(1, .int (nI i)), (0, .ref h)]) (Nat.zero_le _) ⟨lt_0, rfl, rfl, lv_sub hl [0, 1] rfl⟩ (fun i H locs ls hi_2 hI hk_2 => ?_) (fun H locs ls hI => ?_)
  · obtain ⟨hf, rfl, rfl, hl⟩ := hI
    refine lv_iload_n hx hb de_V_noValueBelowZero_2 rfl (lv_at hl 0 rfl) ?_
    refine lv_aload_n hx hb de_V_noValueBelowZero_3 rfl (lv_at hl 1 rfl) ?_
    refine va_get (D := (dC, dI)) (ci := 4) (v := .ref hlines) (C := rn_V) (T := tf_V) (N := 16) hx hb hts in_V hown hK hP 0 rfl rfl 0 (by decide) (hts _ wd_151) (fun _ h9 => h9) rfl de_V_noValueBelowZero_4 ?_
    refine qv_callR (As := []) (rest := [.int (nI i)]) ⟨hx, hb, hml, hown, hts⟩ (cl_size l dC dI cJ cI cZ hlines hlines_weights hlines_prices hlines_ones hlines_parts hlines_rests xlines_size xlines_weightSum xlines_priceSum) (cwV 0 hts (gd_V wd_248 wd_249 wd_250 wd_43 wd_251) rfl rfl rfl (by decide +kernel) ⟨Nat.le_of_ble_eq_true rfl, Nat.le_of_ble_eq_true rfl⟩) hK hP [1] rfl rfl rfl rfl hl.1 rfl (Nat.le_of_ble_eq_true rfl) de_V_noValueBelowZero_7 ⟨Nat.zero_le _, Nat.zero_le _⟩ ?_
    refine lv_icmp_ge (tgt := 32) hx hb de_V_noValueBelowZero_10 (by decide) (fun c_1 => ((nI_ge hi_2 (by omega) c_1)).elim) (fun _ => ?_)
    refine lv_aload_n hx hb de_V_noValueBelowZero_13 rfl (lv_at hl 1 rfl) ?_
    refine va_get (D := (dC, dI)) (ci := 4) (v := .ref hvalues) (C := rn_V) (T := tf_V) (N := 16) hx hb hts in_V hown hK hP 0 rfl rfl 9 (by decide) (hts _ wd_160) (fun _ h9 => h9) rfl de_V_noValueBelowZero_14 ?_
    refine lv_iload_n hx hb de_V_noValueBelowZero_17 rfl (lv_at hl 0 rfl) ?_
    refine qv_lald (k := i) hx hb hK hP 2 0 rfl rfl (by omega) (by omega) de_V_noValueBelowZero_18 ?_
    refine lv_lconst (v := 0) hx hb de_V_noValueBelowZero_19 (by decide) ?_
    refine W.lcmp hx hb de_V_noValueBelowZero_20 ?_
    refine lv_if_ge (tgt := 26) hx hb de_V_noValueBelowZero_21 (by decide) (fun c_2 => ?_) (fun c_2 => ?_)
    · have c_2 := (lg_cmp_ge _ _).mp c_2
      refine lv_iinc (v := nI (i + 1)) (lv' := [(1, .int (nI (i + 1))), (0, .ref h)]) hx hb de_V_noValueBelowZero_26 hl (k := 0) rfl (nI_1 _) (by decide) rfl (fun ls hl => ?_)
      refine lv_goto (tgt := 2) hx hb de_V_noValueBelowZero_29 (by decide) ?_
      exact hk_2 _ _ _ ⟨(lt_s hf (sp_nge2 c_2)), rfl, rfl, lv_sub hl [0, 1] rfl⟩
    · have c_2 := mt (lg_cmp_ge _ _).mpr c_2
      refine lv_iconst (v := 0) hx hb de_V_noValueBelowZero_24 (by decide) ?_
      exact W.zret (v := 0) hx hb hr rfl (fun t9 ht9 hW9 => ⟨congrArg (fun z => Outcome.returned (some (Value.int z))) (show 0 = sp_nneg fvalues xlines_size from (if_neg (fun h => h i hi_2 (sp_nge c_2))).symm), ht9⟩) (fun _ h => nomatch h) de_V_noValueBelowZero_25
  · obtain ⟨hf, rfl, rfl, hl⟩ := hI
    refine lv_iload_n hx hb de_V_noValueBelowZero_2 rfl (lv_at hl 0 rfl) ?_
    refine lv_aload_n hx hb de_V_noValueBelowZero_3 rfl (lv_at hl 1 rfl) ?_
    refine va_get (D := (dC, dI)) (ci := 4) (v := .ref hlines) (C := rn_V) (T := tf_V) (N := 16) hx hb hts in_V hown hK hP 0 rfl rfl 0 (by decide) (hts _ wd_151) (fun _ h9 => h9) rfl de_V_noValueBelowZero_4 ?_
    refine qv_callR (As := []) (rest := [.int (nI xlines_size)]) ⟨hx, hb, hml, hown, hts⟩ (cl_size l dC dI cJ cI cZ hlines hlines_weights hlines_prices hlines_ones hlines_parts hlines_rests xlines_size xlines_weightSum xlines_priceSum) (cwV 0 hts (gd_V wd_248 wd_249 wd_250 wd_43 wd_251) rfl rfl rfl (by decide +kernel) ⟨Nat.le_of_ble_eq_true rfl, Nat.le_of_ble_eq_true rfl⟩) hK hP [1] rfl rfl rfl rfl hl.1 rfl (Nat.le_of_ble_eq_true rfl) de_V_noValueBelowZero_7 ⟨Nat.zero_le _, Nat.zero_le _⟩ ?_
    refine lv_icmp_ge (tgt := 32) hx hb de_V_noValueBelowZero_10 (by decide) (fun _ => ?_) (fun c_3 => ((c_3 (nI_le (Nat.le_refl _) (by omega)))).elim)
    refine lv_iconst (v := 1) hx hb de_V_noValueBelowZero_32 (by decide) ?_
    exact W.zret (v := 1) hx hb hr rfl (fun t9 ht9 hW9 => ⟨congrArg (fun z => Outcome.returned (some (Value.int z))) (show 1 = sp_nneg fvalues xlines_size from (if_pos hf).symm), ht9⟩) (fun _ h => nomatch h) de_V_noValueBelowZero_33
set_option maxHeartbeats 4000000 in
set_option maxRecDepth 100000 in
/-- passesTest -/
theorem cv_test (l : Launch) (dC : Nat → ClassId) (dI : Nat → Nat → Nat) (cJ cI cZ : Nat) (h : Nat) (hlines : Nat) (hadditions : Nat) (hdeductions : Nat) (hdiscounts : Nat) (hrates : Nat) (hconditions : Nat) (hfigured : Nat) (hfiguresA : Nat) (hfiguresB : Nat) (hvalues : Nat) (xinvoiceDay : Nat) (xpaidDay : Nat) (xareRelated : Int32) (xtestValue : Int64) (xtestBand : Int32) (xisTurned : Int32) (hlines_weights : Nat) (hlines_prices : Nat) (hlines_ones : Nat) (hlines_parts : Nat) (hlines_rests : Nat) (xlines_size : Nat) (xlines_weightSum : Int64) (xlines_priceSum : Int64) (fvalues : Nat → Int64) (hn : xlines_size ≤ 40) : Met l yn_V_passesTest ws_V_passesTest ({ frames := 2, cells := 0, slots := 0, locals := 43 }) (va_Pc [.ref h] (qv_ro (dC, dI) cls_t [(h, .inr (4, [.ref hlines, .ref hadditions, .ref hdeductions, .ref hdiscounts, .ref hrates, .ref hconditions, .ref hfigured, .ref hfiguresA, .ref hfiguresB, .ref hvalues, .int (nI xinvoiceDay), .int (nI xpaidDay), .int xareRelated, .long xtestValue, .int xtestBand, .int xisTurned])), (hlines, .inr (2, [.ref hlines_weights, .ref hlines_prices, .ref hlines_ones, .ref hlines_parts, .ref hlines_rests, .int (nI xlines_size), .long xlines_weightSum, .long xlines_priceSum])), (hvalues, .inl (cJ, 40, .inr (.inl fvalues)))] [(cJ, .long), (cI, .int), (cZ, .boolean)])) (k2_QcV (.int (sp_test xareRelated xtestValue xtestBand (sp_sum fvalues xlines_size)))) 0 0 (fun _ => False) := by
  refine Met.ofW (cc := by_V_passesTest) (maxL := 1) (ret := (some .boolean)) (by decide) rfl ?_
  intro p e s m args below meth c s₁ B hml hv
  obtain ⟨rfl, hP, hK⟩ := hv
  have hx := B.exec
  have hb := B.bytes
  have hr := B.returns
  have hts := fun (w : Cond) (h : w ∈ lw_gt) => atoms_spec (ws := ws_V_passesTest) B.pre w (List.mem_cons_of_mem _ h)
  have hown : s.vm.findClass rn_V = some m.cls := findClass_of_methodNamed B.named
  have hlocks := B.notSynchronized
  have hP : va_P (dC, dI) cls_t [(h, .inr (4, [.ref hlines, .ref hadditions, .ref hdeductions, .ref hdiscounts, .ref hrates, .ref hconditions, .ref hfigured, .ref hfiguresA, .ref hfiguresB, .ref hvalues, .int (nI xinvoiceDay), .int (nI xpaidDay), .int xareRelated, .long xtestValue, .int xtestBand, .int xisTurned])), (hlines, .inr (2, [.ref hlines_weights, .ref hlines_prices, .ref hlines_ones, .ref hlines_parts, .ref hlines_rests, .int (nI xlines_size), .long xlines_weightSum, .long xlines_priceSum])), (hvalues, .inl (cJ, 40, .inr (.inl fvalues)))] s.heap := hP
  have hl := lv_entry ([.ref h]) (n := 1) (Nat.le_of_ble_eq_true rfl)
  rw [lg_entry_eq]
  generalize (lg_sl ([.ref h]) ++ List.replicate (1 - (lg_sl ([.ref h])).length) Slot.unset).toArray = ls at hl ⊢
  have hl : lv_has ls 1 [(0, .ref h)] := hl
  refine lv_aload_n hx hb de_V_passesTest_0 rfl (lv_at hl 0 rfl) ?_
  refine va_get (D := (dC, dI)) (ci := 4) (v := .int xareRelated) (C := rn_V) (T := tf_V) (N := 16) hx hb hts in_V hown hK hP 0 rfl rfl 12 (by decide) (hts _ wd_163) (fun _ h9 => h9) rfl de_V_passesTest_1 ?_
  refine lv_if_ne (tgt := 9) hx hb de_V_passesTest_4 (by decide) (fun c_1 => ?_) (fun c_1 => ?_)
  · refine lv_aload_n hx hb de_V_passesTest_9 rfl (lv_at hl 0 rfl) ?_
    refine va_get (D := (dC, dI)) (ci := 4) (v := .long xtestValue) (C := rn_V) (T := tf_V) (N := 16) hx hb hts in_V hown hK hP 0 rfl rfl 13 (by decide) (hts _ wd_164) (fun _ h9 => h9) rfl de_V_passesTest_10 ?_
    refine lv_ldc2 (v := (-1)) hx hb hown (hts _ wd_150) de_V_passesTest_13 ?_
    refine W.lcmp hx hb de_V_passesTest_16 ?_
    refine lv_if_ne (tgt := 22) hx hb de_V_passesTest_17 (by decide) (fun c_2 => ?_) (fun c_2 => ?_)
    · have c_2 := mt (lg_cmp_eq _ _).mpr c_2
      refine lv_aload_n hx hb de_V_passesTest_22 rfl (lv_at hl 0 rfl) ?_
      refine qv_callR (As := []) (rest := []) ⟨hx, hb, hml, hown, hts⟩ (cv_vsum l dC dI cJ cI cZ h hlines hadditions hdeductions hdiscounts hrates hconditions hfigured hfiguresA hfiguresB hvalues xinvoiceDay xpaidDay xareRelated xtestValue xtestBand xisTurned hlines_weights hlines_prices hlines_ones hlines_parts hlines_rests xlines_size xlines_weightSum xlines_priceSum fvalues (by omega)) (cwV 0 hts (gd_V wd_320 wd_322 wd_9 wd_42 wd_323) rfl rfl rfl (by decide +kernel) ⟨Nat.le_of_ble_eq_true rfl, Nat.le_of_ble_eq_true rfl⟩) hK hP [0, 1, 2] rfl rfl rfl rfl hl.1 rfl (Nat.le_of_ble_eq_true rfl) de_V_passesTest_23 ⟨Nat.zero_le _, Nat.zero_le _⟩ ?_
      refine lv_aload_n hx hb de_V_passesTest_26 rfl (lv_at hl 0 rfl) ?_
      refine va_get (D := (dC, dI)) (ci := 4) (v := .long xtestValue) (C := rn_V) (T := tf_V) (N := 16) hx hb hts in_V hown hK hP 0 rfl rfl 13 (by decide) (hts _ wd_164) (fun _ h9 => h9) rfl de_V_passesTest_27 ?_
      refine lv_lsub hx hb de_V_passesTest_30 ?_
      refine va_mabs_long hx hb (by rw [hml]; exact hl.1.symm) hown (hts _ wd_324) (hts _ wd_325) (hts _ wd_53) (hts _ wd_326) (Nat.le_of_ble_eq_true rfl) (Nat.le_of_ble_eq_true rfl) (Nat.zero_le _) (Nat.zero_le _) de_V_passesTest_31 ?_
      refine lv_ldc2 (v := 1000) hx hb hown (hts _ wd_231) de_V_passesTest_34 ?_
      refine lv_lmul hx hb de_V_passesTest_37 ?_
      refine lv_aload_n hx hb de_V_passesTest_38 rfl (lv_at hl 0 rfl) ?_
      refine va_get (D := (dC, dI)) (ci := 4) (v := .long xtestValue) (C := rn_V) (T := tf_V) (N := 16) hx hb hts in_V hown hK hP 0 rfl rfl 13 (by decide) (hts _ wd_164) (fun _ h9 => h9) rfl de_V_passesTest_39 ?_
      refine lv_aload_n hx hb de_V_passesTest_42 rfl (lv_at hl 0 rfl) ?_
      refine va_get (D := (dC, dI)) (ci := 4) (v := .int xtestBand) (C := rn_V) (T := tf_V) (N := 16) hx hb hts in_V hown hK hP 0 rfl rfl 14 (by decide) (hts _ wd_165) (fun _ h9 => h9) rfl de_V_passesTest_43 ?_
      refine lv_i2l (v := xtestBand.toInt64) hx hb de_V_passesTest_46 rfl ?_
      refine lv_lmul hx hb de_V_passesTest_47 ?_
      refine W.lcmp hx hb de_V_passesTest_48 ?_
      refine lv_if_gt (tgt := 56) hx hb de_V_passesTest_49 (by decide) (fun c_3 => ?_) (fun c_3 => ?_)
      · have c_3 := (lg_cmp_gt _ _).mp c_3
        refine lv_iconst (v := 0) hx hb de_V_passesTest_56 (by decide) ?_
        exact W.zret (v := 0) hx hb hr rfl (fun t9 ht9 hW9 => ⟨congrArg (fun z => Outcome.returned (some (Value.int z))) (show 0 = (sp_test xareRelated xtestValue xtestBand (sp_sum fvalues xlines_size)) from by simp only [sp_test, if_neg c_1, if_neg c_2, if_pos c_3]), ht9⟩) (fun _ h => nomatch h) de_V_passesTest_57
      · have c_3 := mt (lg_cmp_gt _ _).mpr c_3
        refine lv_iconst (v := 1) hx hb de_V_passesTest_52 (by decide) ?_
        refine lv_goto (tgt := 57) hx hb de_V_passesTest_53 (by decide) ?_
        exact W.zret (v := 1) hx hb hr rfl (fun t9 ht9 hW9 => ⟨congrArg (fun z => Outcome.returned (some (Value.int z))) (show 1 = (sp_test xareRelated xtestValue xtestBand (sp_sum fvalues xlines_size)) from by simp only [sp_test, if_neg c_1, if_neg c_2, if_neg c_3]), ht9⟩) (fun _ h => nomatch h) de_V_passesTest_57
    · have c_2 := (lg_cmp_eq _ _).mp c_2
      refine lv_iconst (v := 0) hx hb de_V_passesTest_20 (by decide) ?_
      exact W.zret (v := 0) hx hb hr rfl (fun t9 ht9 hW9 => ⟨congrArg (fun z => Outcome.returned (some (Value.int z))) (show 0 = (sp_test xareRelated xtestValue xtestBand (sp_sum fvalues xlines_size)) from by simp only [sp_test, if_neg c_1, if_pos c_2]), ht9⟩) (fun _ h => nomatch h) de_V_passesTest_21
  · refine lv_iconst (v := 1) hx hb de_V_passesTest_7 (by decide) ?_
    exact W.zret (v := 1) hx hb hr rfl (fun t9 ht9 hW9 => ⟨congrArg (fun z => Outcome.returned (some (Value.int z))) (show 1 = (sp_test xareRelated xtestValue xtestBand (sp_sum fvalues xlines_size)) from by simp only [sp_test, if_pos c_1]), ht9⟩) (fun _ h => nomatch h) de_V_passesTest_8
set_option maxHeartbeats 4000000 in
set_option maxRecDepth 100000 in
/-- figuresCanBe -/
theorem cs_can (l : Launch) (dC : Nat → ClassId) (dI : Nat → Nat → Nat) (cJ cI cZ : Nat) (k : Int32) (a : Int64) (b : Int64) : Met l yn_V_figuresCanBe ws_V_figuresCanBe ({ frames := 1, cells := 0, slots := 0, locals := 25 }) (va_Pc [.int k, .long a, .long b] (fun _ => True)) (k2_QcV (.int (sp_can k a b))) 0 0 (fun _ => False) := by
  refine Met.ofW (cc := by_V_figuresCanBe) (maxL := 5) (ret := (some .boolean)) (by decide) rfl ?_
  intro p e s m args below meth c s₁ B hml hv
  obtain ⟨rfl, -⟩ := hv
  have hx := B.exec
  have hb := B.bytes
  have hr := B.returns
  have hts := fun (w : Cond) (h : w ∈ lw_gt) => atoms_spec (ws := ws_V_figuresCanBe) B.pre w (List.mem_cons_of_mem _ h)
  have hown : s.vm.findClass rn_V = some m.cls := findClass_of_methodNamed B.named
  have hlocks := B.notSynchronized
  have hl := lv_entry ([.int k, .long a, .long b]) (n := 5) (Nat.le_of_ble_eq_true rfl)
  rw [lg_entry_eq]
  generalize (lg_sl ([.int k, .long a, .long b]) ++ List.replicate (5 - (lg_sl ([.int k, .long a, .long b])).length) Slot.unset).toArray = ls at hl ⊢
  have hl : lv_has ls 5 [(0, .int k), (1, .long a), (3, .long b)] := hl
  refine lv_iload_n hx hb de_V_figuresCanBe_0 rfl (lv_at hl 0 rfl) ?_
  refine lv_iconst (v := 2) hx hb de_V_figuresCanBe_1 (by decide) ?_
  refine lv_icmp_eq (tgt := 10) hx hb de_V_figuresCanBe_2 (by decide) (fun c_1 => ?_) (fun c_1 => ?_)
  · refine lv_lload_n hx hb de_V_figuresCanBe_10 rfl (lv_at hl 1 rfl) ?_
    refine lv_lconst (v := 0) hx hb de_V_figuresCanBe_11 (by decide) ?_
    refine lv_ldc2 (v := 100000) hx hb hown (hts _ wd_229) de_V_figuresCanBe_12 ?_
    refine qv_callS (As := [.long a, .long 0, .long 100000]) (rest := []) ⟨hx, hb, hml, hown, hts⟩ (cs_within l dC dI cJ cI cZ a 0 100000) (cwS 3 hts (gd_S wd_205 wd_206 wd_42 wd_207) rfl rfl rfl (by decide +kernel) ⟨Nat.le_of_ble_eq_true rfl, Nat.le_of_ble_eq_true rfl⟩) rfl hl.1 rfl (Nat.le_of_ble_eq_true rfl) de_V_figuresCanBe_15 ⟨Nat.zero_le _, Nat.zero_le _⟩ ?_
    refine lv_if_eq (tgt := 36) hx hb de_V_figuresCanBe_18 (by decide) (fun c_2 => ?_) (fun c_2 => ?_)
    · refine lv_iconst (v := 0) hx hb de_V_figuresCanBe_36 (by decide) ?_
      exact W.zret (v := 0) hx hb hr rfl (fun t9 ht9 hW9 => ⟨congrArg (fun z => Outcome.returned (some (Value.int z))) (show 0 = (sp_can k a b) from by simp only [sp_can, if_pos c_1, if_pos c_2]), ht9⟩) (fun _ h => nomatch h) de_V_figuresCanBe_37
    · refine lv_lload_n hx hb de_V_figuresCanBe_21 rfl (lv_at hl 2 rfl) ?_
      refine lv_lconst (v := 1) hx hb de_V_figuresCanBe_22 (by decide) ?_
      refine lv_ldc2 (v := 1000000000) hx hb hown (hts _ wd_230) de_V_figuresCanBe_23 ?_
      refine qv_callS (As := [.long b, .long 1, .long 1000000000]) (rest := []) ⟨hx, hb, hml, hown, hts⟩ (cs_within l dC dI cJ cI cZ b 1 1000000000) (cwS 3 hts (gd_S wd_205 wd_206 wd_42 wd_207) rfl rfl rfl (by decide +kernel) ⟨Nat.le_of_ble_eq_true rfl, Nat.le_of_ble_eq_true rfl⟩) rfl hl.1 rfl (Nat.le_of_ble_eq_true rfl) de_V_figuresCanBe_26 ⟨Nat.zero_le _, Nat.zero_le _⟩ ?_
      refine lv_if_eq (tgt := 36) hx hb de_V_figuresCanBe_29 (by decide) (fun c_3 => ?_) (fun c_3 => ?_)
      · refine lv_iconst (v := 0) hx hb de_V_figuresCanBe_36 (by decide) ?_
        exact W.zret (v := 0) hx hb hr rfl (fun t9 ht9 hW9 => ⟨congrArg (fun z => Outcome.returned (some (Value.int z))) (show 0 = (sp_can k a b) from by simp only [sp_can, if_pos c_1, if_neg c_2, if_pos c_3]), ht9⟩) (fun _ h => nomatch h) de_V_figuresCanBe_37
      · refine lv_iconst (v := 1) hx hb de_V_figuresCanBe_32 (by decide) ?_
        refine lv_goto (tgt := 37) hx hb de_V_figuresCanBe_33 (by decide) ?_
        exact W.zret (v := 1) hx hb hr rfl (fun t9 ht9 hW9 => ⟨congrArg (fun z => Outcome.returned (some (Value.int z))) (show 1 = (sp_can k a b) from by simp only [sp_can, if_pos c_1, if_neg c_2, if_neg c_3]), ht9⟩) (fun _ h => nomatch h) de_V_figuresCanBe_37
  · refine lv_iload_n hx hb de_V_figuresCanBe_5 rfl (lv_at hl 0 rfl) ?_
    refine lv_iconst (v := 3) hx hb de_V_figuresCanBe_6 (by decide) ?_
    refine lv_icmp_ne (tgt := 38) hx hb de_V_figuresCanBe_7 (by decide) (fun c_4 => ?_) (fun c_4 => ?_)
    · refine lv_lload_n hx hb de_V_figuresCanBe_38 rfl (lv_at hl 1 rfl) ?_
      refine lv_lconst (v := 0) hx hb de_V_figuresCanBe_39 (by decide) ?_
      refine lv_ldc2 (v := 1000000000) hx hb hown (hts _ wd_230) de_V_figuresCanBe_40 ?_
      refine qv_callS (As := [.long a, .long 0, .long 1000000000]) (rest := []) ⟨hx, hb, hml, hown, hts⟩ (cs_within l dC dI cJ cI cZ a 0 1000000000) (cwS 3 hts (gd_S wd_205 wd_206 wd_42 wd_207) rfl rfl rfl (by decide +kernel) ⟨Nat.le_of_ble_eq_true rfl, Nat.le_of_ble_eq_true rfl⟩) rfl hl.1 rfl (Nat.le_of_ble_eq_true rfl) de_V_figuresCanBe_43 ⟨Nat.zero_le _, Nat.zero_le _⟩ ?_
      refine lv_if_eq (tgt := 64) hx hb de_V_figuresCanBe_46 (by decide) (fun c_5 => ?_) (fun c_5 => ?_)
      · refine lv_iconst (v := 0) hx hb de_V_figuresCanBe_64 (by decide) ?_
        exact W.zret (v := 0) hx hb hr rfl (fun t9 ht9 hW9 => ⟨congrArg (fun z => Outcome.returned (some (Value.int z))) (show 0 = (sp_can k a b) from by simp only [sp_can, if_neg c_1, if_neg c_4, if_pos c_5]), ht9⟩) (fun _ h => nomatch h) de_V_figuresCanBe_65
      · refine lv_lload_n hx hb de_V_figuresCanBe_49 rfl (lv_at hl 2 rfl) ?_
        refine lv_lconst (v := 0) hx hb de_V_figuresCanBe_50 (by decide) ?_
        refine lv_ldc2 (v := 1000) hx hb hown (hts _ wd_231) de_V_figuresCanBe_51 ?_
        refine qv_callS (As := [.long b, .long 0, .long 1000]) (rest := []) ⟨hx, hb, hml, hown, hts⟩ (cs_within l dC dI cJ cI cZ b 0 1000) (cwS 3 hts (gd_S wd_205 wd_206 wd_42 wd_207) rfl rfl rfl (by decide +kernel) ⟨Nat.le_of_ble_eq_true rfl, Nat.le_of_ble_eq_true rfl⟩) rfl hl.1 rfl (Nat.le_of_ble_eq_true rfl) de_V_figuresCanBe_54 ⟨Nat.zero_le _, Nat.zero_le _⟩ ?_
        refine lv_if_eq (tgt := 64) hx hb de_V_figuresCanBe_57 (by decide) (fun c_6 => ?_) (fun c_6 => ?_)
        · refine lv_iconst (v := 0) hx hb de_V_figuresCanBe_64 (by decide) ?_
          exact W.zret (v := 0) hx hb hr rfl (fun t9 ht9 hW9 => ⟨congrArg (fun z => Outcome.returned (some (Value.int z))) (show 0 = (sp_can k a b) from by simp only [sp_can, if_neg c_1, if_neg c_4, if_neg c_5, if_pos c_6]), ht9⟩) (fun _ h => nomatch h) de_V_figuresCanBe_65
        · refine lv_iconst (v := 1) hx hb de_V_figuresCanBe_60 (by decide) ?_
          refine lv_goto (tgt := 65) hx hb de_V_figuresCanBe_61 (by decide) ?_
          exact W.zret (v := 1) hx hb hr rfl (fun t9 ht9 hW9 => ⟨congrArg (fun z => Outcome.returned (some (Value.int z))) (show 1 = (sp_can k a b) from by simp only [sp_can, if_neg c_1, if_neg c_4, if_neg c_5, if_neg c_6]), ht9⟩) (fun _ h => nomatch h) de_V_figuresCanBe_65
    · refine lv_lload_n hx hb de_V_figuresCanBe_10 rfl (lv_at hl 1 rfl) ?_
      refine lv_lconst (v := 0) hx hb de_V_figuresCanBe_11 (by decide) ?_
      refine lv_ldc2 (v := 100000) hx hb hown (hts _ wd_229) de_V_figuresCanBe_12 ?_
      refine qv_callS (As := [.long a, .long 0, .long 100000]) (rest := []) ⟨hx, hb, hml, hown, hts⟩ (cs_within l dC dI cJ cI cZ a 0 100000) (cwS 3 hts (gd_S wd_205 wd_206 wd_42 wd_207) rfl rfl rfl (by decide +kernel) ⟨Nat.le_of_ble_eq_true rfl, Nat.le_of_ble_eq_true rfl⟩) rfl hl.1 rfl (Nat.le_of_ble_eq_true rfl) de_V_figuresCanBe_15 ⟨Nat.zero_le _, Nat.zero_le _⟩ ?_
      refine lv_if_eq (tgt := 36) hx hb de_V_figuresCanBe_18 (by decide) (fun c_7 => ?_) (fun c_7 => ?_)
      · refine lv_iconst (v := 0) hx hb de_V_figuresCanBe_36 (by decide) ?_
        exact W.zret (v := 0) hx hb hr rfl (fun t9 ht9 hW9 => ⟨congrArg (fun z => Outcome.returned (some (Value.int z))) (show 0 = (sp_can k a b) from by simp only [sp_can, if_neg c_1, if_pos c_4, if_pos c_7]), ht9⟩) (fun _ h => nomatch h) de_V_figuresCanBe_37
      · refine lv_lload_n hx hb de_V_figuresCanBe_21 rfl (lv_at hl 2 rfl) ?_
        refine lv_lconst (v := 1) hx hb de_V_figuresCanBe_22 (by decide) ?_
        refine lv_ldc2 (v := 1000000000) hx hb hown (hts _ wd_230) de_V_figuresCanBe_23 ?_
        refine qv_callS (As := [.long b, .long 1, .long 1000000000]) (rest := []) ⟨hx, hb, hml, hown, hts⟩ (cs_within l dC dI cJ cI cZ b 1 1000000000) (cwS 3 hts (gd_S wd_205 wd_206 wd_42 wd_207) rfl rfl rfl (by decide +kernel) ⟨Nat.le_of_ble_eq_true rfl, Nat.le_of_ble_eq_true rfl⟩) rfl hl.1 rfl (Nat.le_of_ble_eq_true rfl) de_V_figuresCanBe_26 ⟨Nat.zero_le _, Nat.zero_le _⟩ ?_
        refine lv_if_eq (tgt := 36) hx hb de_V_figuresCanBe_29 (by decide) (fun c_8 => ?_) (fun c_8 => ?_)
        · refine lv_iconst (v := 0) hx hb de_V_figuresCanBe_36 (by decide) ?_
          exact W.zret (v := 0) hx hb hr rfl (fun t9 ht9 hW9 => ⟨congrArg (fun z => Outcome.returned (some (Value.int z))) (show 0 = (sp_can k a b) from by simp only [sp_can, if_neg c_1, if_pos c_4, if_neg c_7, if_pos c_8]), ht9⟩) (fun _ h => nomatch h) de_V_figuresCanBe_37
        · refine lv_iconst (v := 1) hx hb de_V_figuresCanBe_32 (by decide) ?_
          refine lv_goto (tgt := 37) hx hb de_V_figuresCanBe_33 (by decide) ?_
          exact W.zret (v := 1) hx hb hr rfl (fun t9 ht9 hW9 => ⟨congrArg (fun z => Outcome.returned (some (Value.int z))) (show 1 = (sp_can k a b) from by simp only [sp_can, if_neg c_1, if_pos c_4, if_neg c_7, if_neg c_8]), ht9⟩) (fun _ h => nomatch h) de_V_figuresCanBe_37
